/-- an error is told -/
def err (V : Mm) (k : Int) : Mm := wr V 155 k (V 155 k + 1)
theorem c_error {γ : Gh} {K : Sk} {V : Mm} (hL : Lay K) {a k : Int} (hk : 1 ≤ k ∧ k ≤ 5) (ha : a = -1000000000 - k) : Call γ M_X11_error 0 0 0 [vR 100, vI a] K V (Rt (some (vI a)) K (err V k)) := by
  refine call_of (by decide +kernel) (by intro v hv; simp only [List.mem_cons, List.not_mem_nil, or_false] at hv; rcases hv with rfl | rfl <;> exact fun q => by cases q) (Nat.le_of_ble_eq_true rfl) ?_
  refine ev_lsE (ls' := [_, _, _]) rfl ?_
  have e1 : -1000000000 - a = k := by omega
  refine ev_ldcw (X := M_X11_error) (pc := 0) (v := -1000000000) dX11_error_0 kw_323 (by decide) ?_
  refine ev_iload_n (X := M_X11_error) (pc := 3) dX11_error_3 rfl ?_
  refine ev_isub (X := M_X11_error) (pc := 4) dX11_error_4 ?_
  rw [e1]
  refine ev_istore_nL (X := M_X11_error) (pc := 5) (ls' := [_, _, _]) dX11_error_5 (by decide) rfl ?_
  refine ev_iload_n (X := M_X11_error) (pc := 6) dX11_error_6 rfl ?_
  refine ev_iconst (X := M_X11_error) (pc := 7) dX11_error_7 ?_
  refine ev_icmp_lt (X := M_X11_error) (pc := 8) (tgt := 26) dX11_error_8 (by decide) (by omega) (by omega) (fun h8 => ?_) (fun h8 => ?_)
  · refine ev_iload_n (X := M_X11_error) (pc := 26) dX11_error_26 rfl ?_
    refine ev_iret (X := M_X11_error) (pc := 27) dX11_error_27 rfl ?_
    first
      | (exfalso; omega)
      | exact ⟨rfl, rfl, rfl⟩
  · refine ev_iload_n (X := M_X11_error) (pc := 11) dX11_error_11 rfl ?_
    refine ev_iconst (X := M_X11_error) (pc := 12) dX11_error_12 ?_
    refine ev_icmp_gt (X := M_X11_error) (pc := 13) (tgt := 26) dX11_error_13 (by decide) (by omega) (by omega) (fun h13 => ?_) (fun h13 => ?_)
    · refine ev_iload_n (X := M_X11_error) (pc := 26) dX11_error_26 rfl ?_
      refine ev_iret (X := M_X11_error) (pc := 27) dX11_error_27 rfl ?_
      first
        | (exfalso; omega)
        | exact ⟨rfl, rfl, rfl⟩
    · refine ev_aload_n (X := M_X11_error) (pc := 16) dX11_error_16 rfl ?_
      refine ev_getRe (X := M_X11_error) (pc := 17) dX11_error_17 fl_X11_49_11 (lO_100 hL) rfl (lR_100_6 hL) ?_
      refine ev_iload_n (X := M_X11_error) (pc := 20) dX11_error_20 rfl ?_
      refine ev_dup2 (X := M_X11_error) (pc := 21) dX11_error_21 (fun _ q => by cases q) (fun _ q => by cases q) ?_
      refine ev_iaload (X := M_X11_error) (pc := 22) dX11_error_22 (lS_155 hL) (by omega) ?_
      refine ev_iconst (X := M_X11_error) (pc := 23) dX11_error_23 ?_
      refine ev_iadd (X := M_X11_error) (pc := 24) dX11_error_24 ?_
      refine ev_iastore (X := M_X11_error) (pc := 25) dX11_error_25 (by decide) (lS_155 hL) (by omega) ?_
      refine ev_iload_n (X := M_X11_error) (pc := 26) dX11_error_26 rfl ?_
      refine ev_iret (X := M_X11_error) (pc := 27) dX11_error_27 rfl ?_
      first
        | (exfalso; omega)
        | exact ⟨rfl, rfl, rfl⟩
/-- -1 is no answer -/
def oNr (x : Int) : Int := if x = -1 then -1000000002 else x
def oNV (V : Mm) (x : Int) : Mm := if x = -1 then err V 2 else V
theorem c_orNone {γ : Gh} {K : Sk} {V : Mm} (hL : Lay K) {x : Int} (hx : -2147483648 ≤ x ∧ x < 2147483648) : Call γ M_X11_orNone 1 0 0 [vR 100, vI x] K V (Rt (some (vI (oNr x))) K (oNV V x)) := by
  refine call_of (by decide +kernel) (by intro v hv; simp only [List.mem_cons, List.not_mem_nil, or_false] at hv; rcases hv with rfl | rfl <;> exact fun q => by cases q) (Nat.le_of_ble_eq_true rfl) ?_
  refine ev_lsE (ls' := [_, _]) rfl ?_
  refine ev_iload_n (X := M_X11_orNone) (pc := 0) dX11_orNone_0 rfl ?_
  refine ev_iconst (X := M_X11_orNone) (pc := 1) dX11_orNone_1 ?_
  refine ev_icmp_ne (X := M_X11_orNone) (pc := 2) (tgt := 14) dX11_orNone_2 (by decide) (by omega) (by omega) (fun h2 => ?_) (fun h2 => ?_)
  · refine ev_iload_n (X := M_X11_orNone) (pc := 14) dX11_orNone_14 rfl ?_
    refine ev_iret (X := M_X11_orNone) (pc := 15) dX11_orNone_15 rfl ?_
    first
      | exact ⟨by unfold oNr; rw [if_pos h2], rfl, by unfold oNV; rw [if_pos h2]⟩
      | exact ⟨by unfold oNr; rw [if_neg h2], rfl, by unfold oNV; rw [if_neg h2]⟩
  · refine ev_aload_n (X := M_X11_orNone) (pc := 5) dX11_orNone_5 rfl ?_
    refine ev_ldc (X := M_X11_orNone) (pc := 6) (v := -1000000002) dX11_orNone_6 kw_682 (by decide) ?_
    refine ev_virtR (X := M_X11_orNone) (Y := M_X11_error) (pc := 8) (ci := 11) dX11_orNone_8 mk_X11_error rfl kw_319 kw_321 kp_0 (lO_100 hL) (c_error (k := 2) hL (by decide) (by decide)) rfl (by decide) rfl (Nat.le_of_ble_eq_true rfl) (Nat.zero_add _) (Nat.zero_add _) ?_
    refine ev_goto (X := M_X11_orNone) (pc := 11) (tgt := 15) dX11_orNone_11 (by decide) ?_
    refine ev_iret (X := M_X11_orNone) (pc := 15) dX11_orNone_15 rfl ?_
    first
      | exact ⟨by unfold oNr; rw [if_pos h2], rfl, by unfold oNV; rw [if_pos h2]⟩
      | exact ⟨by unfold oNr; rw [if_neg h2], rfl, by unfold oNV; rw [if_neg h2]⟩
/-- the nearest end of those with at most v beings, w each -/
def nEn (far : Int → Int) (w : Int) : Nat → Int
  | 0 => -1
  | v + 1 => if far ((v + 1 : Nat) * w) ≠ -1 ∧ (nEn far w v = -1 ∨ far ((v + 1 : Nat) * w) < far (nEn far w v)) then (v + 1 : Nat) * w else nEn far w v
def nE (far : Int → Int) (w v : Int) : Int := nEn far w v.toNat
theorem nE_0 {far : Int → Int} {w : Int} : nE far w 0 = -1 := rfl
theorem nE_s {far : Int → Int} {w v : Int} (h : 0 ≤ v) : nE far w (v + 1) = if far ((v + 1) * w) ≠ -1 ∧ (nE far w v = -1 ∨ far ((v + 1) * w) < far (nE far w v)) then (v + 1) * w else nE far w v := by
  unfold nE
  rw [show (v + 1).toNat = v.toNat + 1 by omega]
  show (if _ then _ else _) = _
  rw [show (((v.toNat + 1 : Nat) : Int)) = v + 1 by omega]
theorem nE_in {far : Int → Int} {w : Int} : ∀ v : Nat, nEn far w v = -1 ∨ ∃ j : Int, (1 ≤ j ∧ j ≤ v) ∧ nEn far w v = j * w ∧ far (j * w) ≠ -1
  | 0 => Or.inl rfl
  | v + 1 => by
    have e : nEn far w (v + 1) = if far ((v + 1 : Nat) * w) ≠ -1 ∧ (nEn far w v = -1 ∨ far ((v + 1 : Nat) * w) < far (nEn far w v)) then (v + 1 : Nat) * w else nEn far w v := rfl
    rw [e]
    by_cases h : far ((v + 1 : Nat) * w) ≠ -1 ∧ (nEn far w v = -1 ∨ far ((v + 1 : Nat) * w) < far (nEn far w v))
    · rw [if_pos h]
      exact Or.inr ⟨(v + 1 : Nat), by omega, rfl, h.1⟩
    · rw [if_neg h]
      rcases nE_in v with q | ⟨j, hj, q1, q2⟩
      · exact Or.inl q
      · exact Or.inr ⟨j, by omega, q1, q2⟩
theorem end_st {j k : Int} (hj : 0 ≤ j ∧ j ≤ 12) (hk : 0 ≤ k ∧ k < 3) : isSt (j * wgtF k) := by
  rcases (show k = 0 ∨ k = 1 ∨ k = 2 by omega) with rfl | rfl | rfl
  · have := (st_mk (a := j) (b := 0) (c := 0) hj.1 (by decide) (by decide) (by omega)).1
    show isSt (j * 169)
    rw [show j * 169 = 169 * j + 13 * 0 + 0 by omega]
    exact this
  · have := (st_mk (a := 0) (b := j) (c := 0) (by decide) hj.1 (by decide) (by omega)).1
    show isSt (j * 13)
    rw [show j * 13 = 169 * 0 + 13 * j + 0 by omega]
    exact this
  · have := (st_mk (a := 0) (b := 0) (c := j) (by decide) (by decide) hj.1 (by omega)).1
    show isSt (j * 1)
    rw [show j * 1 = 169 * 0 + 13 * 0 + j by omega]
    exact this
theorem nE_st {far : Int → Int} {k v : Int} (hk : 0 ≤ k ∧ k < 3) (hv : 0 ≤ v ∧ v ≤ 12) : nE far (wgtF k) v = -1 ∨ (isSt (nE far (wgtF k) v) ∧ far (nE far (wgtF k) v) ≠ -1) := by
  rcases nE_in (far := far) (w := wgtF k) v.toNat with q | ⟨j, hj, q1, q2⟩
  · exact Or.inl q
  · right
    have e : nE far (wgtF k) v = j * wgtF k := q1
    rw [e]
    exact ⟨end_st (by omega) hk, q2⟩
theorem c_nearestEnd {γ : Gh} {K : Sk} {V : Mm} (hL : Lay K) (hV : SV V) (hV2 : SV2 V) {s0 k : Int} {B : BS} (hI : BI s0 B) (hE : ∀ q, 0 ≤ q ∧ q < 455 → V 121 q = B.1 (stF q)) (hk : 0 ≤ k ∧ k < 3) : Call γ M_X6_nearestEnd 3 0 0 [vR 101, vI k] K V (Rt (some (vI (nE B.1 (wgtF k) 12))) K V) := by
  refine call_of (by decide +kernel) (by intro v hv; simp only [List.mem_cons, List.not_mem_nil, or_false] at hv; rcases hv with rfl | rfl <;> exact fun q => by cases q) (Nat.le_of_ble_eq_true rfl) ?_
  refine ev_lsE (ls' := [_, _, _, _, _, _]) rfl ?_
  have hw := wgt_pos k
  have hD : ∀ s, isSt s → V 121 (pl s) = B.1 s := fun s hs => by
    obtain ⟨p0, p1, p2⟩ := pl_st hs
    rw [hE _ ⟨p0, p1⟩, p2]
  refine ev_iconst (X := M_X6_nearestEnd) (pc := 0) dX6_nearestEnd_0 ?_
  refine ev_istore_nL (X := M_X6_nearestEnd) (pc := 1) (ls' := [_, _, _, _, _, _]) dX6_nearestEnd_1 (by decide) rfl ?_
  refine ev_iconst (X := M_X6_nearestEnd) (pc := 2) dX6_nearestEnd_2 ?_
  refine ev_istore_nL (X := M_X6_nearestEnd) (pc := 3) (ls' := [_, _, _, _, _, _]) dX6_nearestEnd_3 (by decide) rfl ?_
  refine ev_weak (ev_count 13 1 (fun i => [vR 101, vI k, vI (nE B.1 (wgtF k) (i - 1)), vI i, vU, vU]) (by decide) (fun i hi hn ih => ?_)) ⟨rfl, rfl, rfl, rfl, trivial⟩
  have hst : i ≤ 12 → isSt (i * wgtF k) := fun q => end_st (by omega) hk
  have hf1 := hI.far_r (i * wgtF k)
  have hf2 := hI.far_r (nE B.1 (wgtF k) (i - 1))
  have hb := nE_st (far := B.1) hk (v := i - 1) (by omega)
  have hbr : -1 ≤ nE B.1 (wgtF k) (i - 1) ∧ nE B.1 (wgtF k) (i - 1) < 2197 := by
    rcases hb with q | q
    · omega
    · have := isSt_lt q.1; omega
  have hs := nE_s (far := B.1) (w := wgtF k) (v := i - 1) (by omega)
  rw [show i - 1 + 1 = i by omega] at hs
  refine ev_iload_n (X := M_X6_nearestEnd) (pc := 4) dX6_nearestEnd_4 rfl ?_
  refine ev_bipush (X := M_X6_nearestEnd) (pc := 5) dX6_nearestEnd_5 (by decide) ?_
  refine ev_icmp_gt (X := M_X6_nearestEnd) (pc := 7) (tgt := 57) dX6_nearestEnd_7 (by decide) (by omega) (by omega) (fun h7 => ?_) (fun h7 => ?_)
  · refine ev_iload_n (X := M_X6_nearestEnd) (pc := 57) dX6_nearestEnd_57 rfl ?_
    refine ev_iret (X := M_X6_nearestEnd) (pc := 58) dX6_nearestEnd_58 rfl ?_
    exact ⟨by rw [show i - 1 = 12 by omega], rfl, rfl⟩
  · refine ev_iload_n (X := M_X6_nearestEnd) (pc := 10) dX6_nearestEnd_10 rfl ?_
    refine ev_getsN (X := M_X6_nearestEnd) (pc := 11) (q := ("GreenPath", "WEIGHT", "[I", vR 3)) (host := "GreenPath") dX6_nearestEnd_11 st_3 kn_175 ?_
    refine ev_iload_n (X := M_X6_nearestEnd) (pc := 14) dX6_nearestEnd_14 rfl ?_
    refine ev_ialoadE (X := M_X6_nearestEnd) (pc := 15) dX6_nearestEnd_15 (lS_3 hL) (by omega) (congrFun hV.2.2 _) ?_
    refine ev_imul (X := M_X6_nearestEnd) (pc := 16) dX6_nearestEnd_16 ?_
    refine ev_istoreL (X := M_X6_nearestEnd) (pc := 17) (ls' := [_, _, _, _, _, _]) dX6_nearestEnd_17 (by decide) rfl ?_
    refine ev_aload_n (X := M_X6_nearestEnd) (pc := 19) dX6_nearestEnd_19 rfl ?_
    refine ev_iload (X := M_X6_nearestEnd) (pc := 20) dX6_nearestEnd_20 rfl ?_
    refine ev_virtR (X := M_X6_nearestEnd) (Y := M_X6_distanceOf) (pc := 22) (ci := 6) dX6_nearestEnd_22 mk_X6_distanceOf rfl kw_699 kw_675 kw_676 (lO_101 hL) (c_distanceOf hL hV hV2 (hst (by omega))) rfl (by decide) rfl (Nat.le_of_ble_eq_true rfl) (Nat.zero_add _) (Nat.zero_add _) ?_
    rw [hD _ (hst (by omega))]
    refine ev_istoreL (X := M_X6_nearestEnd) (pc := 25) (ls' := [_, _, _, _, _, _]) dX6_nearestEnd_25 (by decide) rfl ?_
    refine ev_iload (X := M_X6_nearestEnd) (pc := 27) dX6_nearestEnd_27 rfl ?_
    refine ev_iconst (X := M_X6_nearestEnd) (pc := 29) dX6_nearestEnd_29 ?_
    refine ev_icmp_eq (X := M_X6_nearestEnd) (pc := 30) (tgt := 51) dX6_nearestEnd_30 (by decide) (by omega) (by omega) (fun h30 => ?_) (fun h30 => ?_)
    · rw [if_neg (fun q => q.1 h30)] at hs
      refine ev_iincL (X := M_X6_nearestEnd) (pc := 51) (ls' := [_, _, _, _, _, _]) dX6_nearestEnd_51 rfl (by decide) rfl ?_
      refine ev_goto (X := M_X6_nearestEnd) (pc := 54) (tgt := 4) dX6_nearestEnd_54 (by decide) ?_
      refine ev_weak (ih (by omega)) ⟨rfl, rfl, by rw [show i + 1 - 1 = i by omega, hs], rfl, trivial⟩
    · refine ev_iload_n (X := M_X6_nearestEnd) (pc := 33) dX6_nearestEnd_33 rfl ?_
      refine ev_iconst (X := M_X6_nearestEnd) (pc := 34) dX6_nearestEnd_34 ?_
      refine ev_icmp_eq (X := M_X6_nearestEnd) (pc := 35) (tgt := 48) dX6_nearestEnd_35 (by decide) (by omega) (by omega) (fun h35 => ?_) (fun h35 => ?_)
      · rw [if_pos ⟨h30, Or.inl h35⟩] at hs
        refine ev_iload (X := M_X6_nearestEnd) (pc := 48) dX6_nearestEnd_48 rfl ?_
        refine ev_istore_nL (X := M_X6_nearestEnd) (pc := 50) (ls' := [_, _, _, _, _, _]) dX6_nearestEnd_50 (by decide) rfl ?_
        refine ev_iincL (X := M_X6_nearestEnd) (pc := 51) (ls' := [_, _, _, _, _, _]) dX6_nearestEnd_51 rfl (by decide) rfl ?_
        refine ev_goto (X := M_X6_nearestEnd) (pc := 54) (tgt := 4) dX6_nearestEnd_54 (by decide) ?_
        refine ev_weak (ih (by omega)) ⟨rfl, rfl, by rw [show i + 1 - 1 = i by omega, hs], rfl, trivial⟩
      · have hdb := hD _ (hb.resolve_left h35).1
        refine ev_iload (X := M_X6_nearestEnd) (pc := 38) dX6_nearestEnd_38 rfl ?_
        refine ev_aload_n (X := M_X6_nearestEnd) (pc := 40) dX6_nearestEnd_40 rfl ?_
        refine ev_iload_n (X := M_X6_nearestEnd) (pc := 41) dX6_nearestEnd_41 rfl ?_
        refine ev_virtR (X := M_X6_nearestEnd) (Y := M_X6_distanceOf) (pc := 42) (ci := 6) dX6_nearestEnd_42 mk_X6_distanceOf rfl kw_699 kw_675 kw_676 (lO_101 hL) (c_distanceOf hL hV hV2 (hb.resolve_left h35).1) rfl (by decide) rfl (Nat.le_of_ble_eq_true rfl) (Nat.zero_add _) (Nat.zero_add _) ?_
        refine ev_icmp_ge (X := M_X6_nearestEnd) (pc := 45) (tgt := 51) dX6_nearestEnd_45 (by decide) (by omega) (by rw [hdb]; omega) (fun h45 => ?_) (fun h45 => ?_)
        · rw [if_neg (fun q => by rcases q.2 with z | z; exact h35 z; rw [hdb] at h45; omega)] at hs
          refine ev_iincL (X := M_X6_nearestEnd) (pc := 51) (ls' := [_, _, _, _, _, _]) dX6_nearestEnd_51 rfl (by decide) rfl ?_
          refine ev_goto (X := M_X6_nearestEnd) (pc := 54) (tgt := 4) dX6_nearestEnd_54 (by decide) ?_
          refine ev_weak (ih (by omega)) ⟨rfl, rfl, by rw [show i + 1 - 1 = i by omega, hs], rfl, trivial⟩
        · rw [if_pos ⟨h30, Or.inr (by rw [hdb] at h45; omega)⟩] at hs
          refine ev_iload (X := M_X6_nearestEnd) (pc := 48) dX6_nearestEnd_48 rfl ?_
          refine ev_istore_nL (X := M_X6_nearestEnd) (pc := 50) (ls' := [_, _, _, _, _, _]) dX6_nearestEnd_50 (by decide) rfl ?_
          refine ev_iincL (X := M_X6_nearestEnd) (pc := 51) (ls' := [_, _, _, _, _, _]) dX6_nearestEnd_51 rfl (by decide) rfl ?_
          refine ev_goto (X := M_X6_nearestEnd) (pc := 54) (tgt := 4) dX6_nearestEnd_54 (by decide) ?_
          refine ev_weak (ih (by omega)) ⟨rfl, rfl, by rw [show i + 1 - 1 = i by omega, hs], rfl, trivial⟩
/-- what the class's searches leave -/
def frS (V W : Mm) : Prop := ∀ c, ¬ (c = 101 ∨ (119 ≤ c ∧ c ≤ 126) ∨ c = 155) → W c = V c
theorem fr5.S {V W : Mm} (h : fr5 V W) : frS V W := fun c hc => h c (by omega) (by omega) (by omega) (by omega) (by omega)
theorem frS.er {V W : Mm} (h : frS V W) (k : Int) : frS V (err W k) := fun c hc => by
  unfold err
  rw [wr_off (by omega)]
  exact h c hc
theorem frS.rf {V : Mm} : frS V V := fun _ _ => rfl
/-- behind a search of the class: what is kept is right; its errors; nothing else has changed -/
def CS (C : Int → Int) (F : Int) (V : Mm) (er : Int → Int) (W : Mm) : Prop := COk C F (W 119) ∧ W 155 = er ∧ frS V W
/-- answers and errors: reach -/
def reR (B : BS) (t : Int) : Int := if isSt t then oNr (B.1 t) else -1000000001
def reE (B : BS) (t : Int) (er : Int → Int) : Int → Int := if isSt t then (if B.1 t = -1 then up er 2 (er 2 + 1) else er) else up er 1 (er 1 + 1)
theorem err_155 {V : Mm} {k : Int} : err V k 155 = up (V 155) k (V 155 k + 1) := wr_row
theorem err_119 {V : Mm} {k : Int} : err V k 119 = V 119 := wr_off (by decide)
theorem c_reach {γ : Gh} {K : Sk} {V : Mm} {C : Int → Int} {F s0 t : Int} (h : SrP K V C F) (hs : isSt s0) (hn : V 102 4 = s0) (ht : -2147483648 ≤ t ∧ t < 2147483648) : Call γ M_X11_reach 5 0 0 [vR 100, vI t] K V (Qx (some (vI (reR (bF C F s0) t))) K (CS C F V (reE (bF C F s0) t (V 155)))) := by
  refine call_of (by decide +kernel) (by intro v hv; simp only [List.mem_cons, List.not_mem_nil, or_false] at hv; rcases hv with rfl | rfl <;> exact fun q => by cases q) (Nat.le_of_ble_eq_true rfl) ?_
  refine ev_lsE (ls' := [_, _]) rfl ?_
  have hL := h.1
  have hI := bF_I (F := F) h.2.2.2.1 hs
  refine ev_iload_n (X := M_X11_reach) (pc := 0) dX11_reach_0 rfl ?_
  refine ev_staticR (X := M_X11_reach) (Y := M_X11_isState) (pc := 1) dX11_reach_1 mk_X11_isState kw_654 kw_178 (c_isState h.2.1 hL ht) rfl (by decide) rfl (Nat.le_of_ble_eq_true rfl) (Nat.zero_add _) (Nat.zero_add _) ?_
  refine ev_if_ne (X := M_X11_reach) (pc := 4) (tgt := 14) dX11_reach_4 (by decide) (by split <;> decide) (fun h4 => ?_) (fun h4 => ?_)
  · have hst : isSt t := Decidable.byContradiction fun z => h4 (by rw [if_neg z])
    obtain ⟨p0, p1, p2⟩ := pl_st hst
    have hfar := hI.far_r t
    refine ev_aload_n (X := M_X11_reach) (pc := 14) dX11_reach_14 rfl ?_
    refine ev_getRe (X := M_X11_reach) (pc := 15) dX11_reach_15 fl_X11_12_11 (lO_100 hL) rfl (lR_100_2 hL) ?_
    refine ev_virtY (X := M_X11_reach) (Y := M_X6_explore) (pc := 18) (ci := 6) dX11_reach_18 mk_X6_explore rfl kw_655 kw_656 kw_657 (lO_101 hL) (c_explore h hs hn) rfl (by decide) rfl (Nat.le_of_ble_eq_true rfl) (Nat.zero_add _) (Nat.zero_add _) (fun W hW => ?_)
    have hSr := h.fr hW.2.2 hW.2.1
    have hd : W 121 (pl t) = (bF C F s0).1 t := by rw [hW.1.2.2.1 _ ⟨p0, p1⟩, p2]
    refine ev_aload_n (X := M_X11_reach) (pc := 21) dX11_reach_21 rfl ?_
    refine ev_aload_n (X := M_X11_reach) (pc := 22) dX11_reach_22 rfl ?_
    refine ev_getRe (X := M_X11_reach) (pc := 23) dX11_reach_23 fl_X11_12_11 (lO_100 hL) rfl (lR_100_2 hL) ?_
    refine ev_iload_n (X := M_X11_reach) (pc := 26) dX11_reach_26 rfl ?_
    refine ev_virtR (X := M_X11_reach) (Y := M_X6_distanceOf) (pc := 27) (ci := 6) dX11_reach_27 mk_X6_distanceOf rfl kw_674 kw_675 kw_676 (lO_101 hL) (c_distanceOf hL hSr.2.1 hSr.2.2.1 hst) rfl (by decide) rfl (Nat.le_of_ble_eq_true rfl) (Nat.zero_add _) (Nat.zero_add _) ?_
    rw [hd]
    refine ev_virtR (X := M_X11_reach) (Y := M_X11_orNone) (pc := 30) (ci := 11) dX11_reach_30 mk_X11_orNone rfl kw_678 kw_680 kp_4 (lO_100 hL) (c_orNone hL (by omega)) rfl (by decide) rfl (Nat.le_of_ble_eq_true rfl) (Nat.zero_add _) (Nat.zero_add _) ?_
    refine ev_iret (X := M_X11_reach) (pc := 33) dX11_reach_33 rfl ?_
    have h155 : W 155 = V 155 := hW.2.2 155 (by decide) (by decide) (by decide) (by decide) (by decide)
    refine ⟨by unfold reR; rw [if_pos hst], rfl, ?_, ?_, ?_⟩
    · unfold oNV
      split
      · rw [err_119]; exact hW.2.1
      · exact hW.2.1
    · unfold reE oNV
      rw [if_pos hst]
      split
      · rw [err_155, h155]
      · exact h155
    · unfold oNV
      split
      · exact hW.2.2.S.er 2
      · exact hW.2.2.S
  · have hst : ¬ isSt t := fun z => by rw [if_pos z] at h4; exact absurd h4 (by decide)
    refine ev_aload_n (X := M_X11_reach) (pc := 7) dX11_reach_7 rfl ?_
    refine ev_ldc (X := M_X11_reach) (pc := 8) (v := -1000000001) dX11_reach_8 kw_318 (by decide) ?_
    refine ev_virtR (X := M_X11_reach) (Y := M_X11_error) (pc := 10) (ci := 11) dX11_reach_10 mk_X11_error rfl kw_319 kw_321 kp_0 (lO_100 hL) (c_error (k := 1) hL (by decide) (by decide)) rfl (by decide) rfl (Nat.le_of_ble_eq_true rfl) (Nat.zero_add _) (Nat.zero_add _) ?_
    refine ev_iret (X := M_X11_reach) (pc := 13) dX11_reach_13 rfl ?_
    refine ⟨by unfold reR; rw [if_neg hst], rfl, ?_, ?_, frS.rf.er 1⟩
    · rw [err_119]; exact h.2.2.2.2.2.2.2
    · unfold reE; rw [if_neg hst]; exact err_155
theorem c_reached {γ : Gh} {K : Sk} {V : Mm} {C : Int → Int} {F s0 : Int} (h : SrP K V C F) (hs : isSt s0) (hn : V 102 4 = s0) : Call γ M_X11_reached 5 0 0 [vR 100] K V (Qx (some (vI (bF C F s0).2.2.1)) K (CS C F V (V 155))) := by
  refine call_of (by decide +kernel) (by intro v hv; simp only [List.mem_cons, List.not_mem_nil, or_false] at hv; rcases hv with rfl <;> exact fun q => by cases q) (Nat.le_of_ble_eq_true rfl) ?_
  refine ev_lsE (ls' := [_]) rfl ?_
  have hL := h.1
  refine ev_aload_n (X := M_X11_reached) (pc := 0) dX11_reached_0 rfl ?_
  refine ev_getRe (X := M_X11_reached) (pc := 1) dX11_reached_1 fl_X11_12_11 (lO_100 hL) rfl (lR_100_2 hL) ?_
  refine ev_virtY (X := M_X11_reached) (Y := M_X6_explore) (pc := 4) (ci := 6) dX11_reached_4 mk_X6_explore rfl kw_655 kw_656 kw_657 (lO_101 hL) (c_explore h hs hn) rfl (by decide) rfl (Nat.le_of_ble_eq_true rfl) (Nat.zero_add _) (Nat.zero_add _) (fun W hW => ?_)
  refine ev_aload_n (X := M_X11_reached) (pc := 7) dX11_reached_7 rfl ?_
  refine ev_getRe (X := M_X11_reached) (pc := 8) dX11_reached_8 fl_X11_12_11 (lO_100 hL) rfl (lR_100_2 hL) ?_
  refine ev_getIe (X := M_X11_reached) (pc := 11) (ki := 6) dX11_reached_11 fl_X11_186_6 (lO_101 hL) (by decide) rfl (hW.1.1) ?_
  refine ev_iret (X := M_X11_reached) (pc := 14) dX11_reached_14 rfl ?_
  exact ⟨rfl, rfl, hW.2.1, hW.2.2 155 (by decide) (by decide) (by decide) (by decide) (by decide), hW.2.2.S⟩
/-- answers and errors: can -/
def caR (B : BS) (k w : Int) : Int := if (0 ≤ k ∧ k < 3) ∧ 0 ≤ w ∧ w ≤ 1 then (if nE B.1 (wgtF k) 12 = -1 then -1000000002 else if w = 0 then B.1 (nE B.1 (wgtF k) 12) else nE B.1 (wgtF k) 12) else -1000000001
def caE (B : BS) (k w : Int) (er : Int → Int) : Int → Int := if (0 ≤ k ∧ k < 3) ∧ 0 ≤ w ∧ w ≤ 1 then (if nE B.1 (wgtF k) 12 = -1 then up er 2 (er 2 + 1) else er) else up er 1 (er 1 + 1)
theorem c_can {γ : Gh} {K : Sk} {V : Mm} {C : Int → Int} {F s0 k w : Int} (h : SrP K V C F) (hs : isSt s0) (hn : V 102 4 = s0) (hk : -2147483648 ≤ k ∧ k < 2147483648) (hw : -2147483648 ≤ w ∧ w < 2147483648) : Call γ M_X11_can 5 0 0 [vR 100, vI k, vI w] K V (Qx (some (vI (caR (bF C F s0) k w))) K (CS C F V (caE (bF C F s0) k w (V 155)))) := by
  refine call_of (by decide +kernel) (by intro v hv; simp only [List.mem_cons, List.not_mem_nil, or_false] at hv; rcases hv with rfl | rfl | rfl <;> exact fun q => by cases q) (Nat.le_of_ble_eq_true rfl) ?_
  refine ev_lsE (ls' := [_, _, _, _]) rfl ?_
  have hL := h.1
  have hI := bF_I (F := F) h.2.2.2.1 hs
  have key : ¬ ((0 ≤ k ∧ k < 3) ∧ 0 ≤ w ∧ w ≤ 1) → Qx (some (vI (caR (bF C F s0) k w))) K (CS C F V (caE (bF C F s0) k w (V 155))) (some (vI (-1000000001))) K (err V 1) := fun z => by
    refine ⟨by unfold caR; rw [if_neg z], rfl, ?_, ?_, frS.rf.er 1⟩
    · rw [err_119]; exact h.2.2.2.2.2.2.2
    · unfold caE; rw [if_neg z]; exact err_155
  refine ev_iload_n (X := M_X11_can) (pc := 0) dX11_can_0 rfl ?_
  refine ev_staticR (X := M_X11_can) (Y := M_X11_isSort) (pc := 1) dX11_can_1 mk_X11_isSort kw_317 kw_235 (c_isSort hk) rfl (by decide) rfl (Nat.le_of_ble_eq_true rfl) (Nat.zero_add _) (Nat.zero_add _) ?_
  refine ev_if_eq (X := M_X11_can) (pc := 4) (tgt := 16) dX11_can_4 (by decide) (by split <;> decide) (fun h4 => ?_) (fun h4 => ?_)
  · refine ev_aload_n (X := M_X11_can) (pc := 16) dX11_can_16 rfl ?_
    refine ev_ldc (X := M_X11_can) (pc := 17) (v := -1000000001) dX11_can_17 kw_318 (by decide) ?_
    refine ev_virtR (X := M_X11_can) (Y := M_X11_error) (pc := 19) (ci := 11) dX11_can_19 mk_X11_error rfl kw_319 kw_321 kp_0 (lO_100 hL) (c_error (k := 1) hL (by decide) (by decide)) rfl (by decide) rfl (Nat.le_of_ble_eq_true rfl) (Nat.zero_add _) (Nat.zero_add _) ?_
    refine ev_iret (X := M_X11_can) (pc := 22) dX11_can_22 rfl ?_
    refine key (fun z => ?_)
    first
      | omega
      | (rw [if_pos z.1] at h4; exact absurd h4 (by decide))
  · have hk3 : 0 ≤ k ∧ k < 3 := Decidable.byContradiction fun z => h4 (by rw [if_neg z])
    refine ev_iload_n (X := M_X11_can) (pc := 7) dX11_can_7 rfl ?_
    refine ev_if_lt (X := M_X11_can) (pc := 8) (tgt := 16) dX11_can_8 (by decide) (by omega) (fun h8 => ?_) (fun h8 => ?_)
    · refine ev_aload_n (X := M_X11_can) (pc := 16) dX11_can_16 rfl ?_
      refine ev_ldc (X := M_X11_can) (pc := 17) (v := -1000000001) dX11_can_17 kw_318 (by decide) ?_
      refine ev_virtR (X := M_X11_can) (Y := M_X11_error) (pc := 19) (ci := 11) dX11_can_19 mk_X11_error rfl kw_319 kw_321 kp_0 (lO_100 hL) (c_error (k := 1) hL (by decide) (by decide)) rfl (by decide) rfl (Nat.le_of_ble_eq_true rfl) (Nat.zero_add _) (Nat.zero_add _) ?_
      refine ev_iret (X := M_X11_can) (pc := 22) dX11_can_22 rfl ?_
      refine key (fun z => ?_)
      first
        | omega
        | (rw [if_pos z.1] at h4; exact absurd h4 (by decide))
    · refine ev_iload_n (X := M_X11_can) (pc := 11) dX11_can_11 rfl ?_
      refine ev_iconst (X := M_X11_can) (pc := 12) dX11_can_12 ?_
      refine ev_icmp_le (X := M_X11_can) (pc := 13) (tgt := 23) dX11_can_13 (by decide) (by omega) (by omega) (fun h13 => ?_) (fun h13 => ?_)
      · refine ev_aload_n (X := M_X11_can) (pc := 23) dX11_can_23 rfl ?_
        refine ev_getRe (X := M_X11_can) (pc := 24) dX11_can_24 fl_X11_12_11 (lO_100 hL) rfl (lR_100_2 hL) ?_
        refine ev_virtY (X := M_X11_can) (Y := M_X6_explore) (pc := 27) (ci := 6) dX11_can_27 mk_X6_explore rfl kw_655 kw_656 kw_657 (lO_101 hL) (c_explore h hs hn) rfl (by decide) rfl (Nat.le_of_ble_eq_true rfl) (Nat.zero_add _) (Nat.zero_add _) (fun W hW => ?_)
        have hSr := h.fr hW.2.2 hW.2.1
        have hb := nE_st (far := (bF C F s0).1) hk3 (v := 12) (by decide)
        have hbr : -1 ≤ nE (bF C F s0).1 (wgtF k) 12 ∧ nE (bF C F s0).1 (wgtF k) 12 < 2197 := by
          rcases hb with q | q
          · omega
          · have := isSt_lt q.1; omega
        have hok : (0 ≤ k ∧ k < 3) ∧ 0 ≤ w ∧ w ≤ 1 := by omega
        have h155 : W 155 = V 155 := hW.2.2 155 (by decide) (by decide) (by decide) (by decide) (by decide)
        refine ev_aload_n (X := M_X11_can) (pc := 30) dX11_can_30 rfl ?_
        refine ev_getRe (X := M_X11_can) (pc := 31) dX11_can_31 fl_X11_12_11 (lO_100 hL) rfl (lR_100_2 hL) ?_
        refine ev_iload_n (X := M_X11_can) (pc := 34) dX11_can_34 rfl ?_
        refine ev_virtR (X := M_X11_can) (Y := M_X6_nearestEnd) (pc := 35) (ci := 6) dX11_can_35 mk_X6_nearestEnd rfl kw_695 kw_696 kw_697 (lO_101 hL) (c_nearestEnd hL hSr.2.1 hSr.2.2.1 hI hW.1.2.2.1 hk3) rfl (by decide) rfl (Nat.le_of_ble_eq_true rfl) (Nat.zero_add _) (Nat.zero_add _) ?_
        refine ev_istore_nL (X := M_X11_can) (pc := 38) (ls' := [_, _, _, _]) dX11_can_38 (by decide) rfl ?_
        refine ev_iload_n (X := M_X11_can) (pc := 39) dX11_can_39 rfl ?_
        refine ev_iconst (X := M_X11_can) (pc := 40) dX11_can_40 ?_
        refine ev_icmp_ne (X := M_X11_can) (pc := 41) (tgt := 51) dX11_can_41 (by decide) (by omega) (by omega) (fun h41 => ?_) (fun h41 => ?_)
        · refine ev_iload_n (X := M_X11_can) (pc := 51) dX11_can_51 rfl ?_
          refine ev_if_ne (X := M_X11_can) (pc := 52) (tgt := 66) dX11_can_52 (by decide) (by omega) (fun h52 => ?_) (fun h52 => ?_)
          · refine ev_iload_n (X := M_X11_can) (pc := 66) dX11_can_66 rfl ?_
            refine ev_iret (X := M_X11_can) (pc := 67) dX11_can_67 rfl ?_
            refine ⟨?_, rfl, hW.2.1, by unfold caE; rw [if_pos hok, if_neg h41]; exact h155, hW.2.2.S⟩
            unfold caR
            rw [if_pos hok, if_neg h41]
            first
              | rw [if_pos (by omega)]
              | rw [if_neg (by omega)]
          · refine ev_aload_n (X := M_X11_can) (pc := 55) dX11_can_55 rfl ?_
            refine ev_getRe (X := M_X11_can) (pc := 56) dX11_can_56 fl_X11_12_11 (lO_100 hL) rfl (lR_100_2 hL) ?_
            refine ev_iload_n (X := M_X11_can) (pc := 59) dX11_can_59 rfl ?_
            refine ev_virtR (X := M_X11_can) (Y := M_X6_distanceOf) (pc := 60) (ci := 6) dX11_can_60 mk_X6_distanceOf rfl kw_674 kw_675 kw_676 (lO_101 hL) (c_distanceOf hL hSr.2.1 hSr.2.2.1 (hb.resolve_left h41).1) rfl (by decide) rfl (Nat.le_of_ble_eq_true rfl) (Nat.zero_add _) (Nat.zero_add _) ?_
            obtain ⟨p0, p1, p2⟩ := pl_st (hb.resolve_left h41).1
            rw [hW.1.2.2.1 _ ⟨p0, p1⟩, p2]
            refine ev_goto (X := M_X11_can) (pc := 63) (tgt := 67) dX11_can_63 (by decide) ?_
            refine ev_iret (X := M_X11_can) (pc := 67) dX11_can_67 rfl ?_
            refine ⟨?_, rfl, hW.2.1, by unfold caE; rw [if_pos hok, if_neg h41]; exact h155, hW.2.2.S⟩
            unfold caR
            rw [if_pos hok, if_neg h41]
            first
              | rw [if_pos (by omega)]
              | rw [if_neg (by omega)]
        · refine ev_aload_n (X := M_X11_can) (pc := 44) dX11_can_44 rfl ?_
          refine ev_ldc (X := M_X11_can) (pc := 45) (v := -1000000002) dX11_can_45 kw_682 (by decide) ?_
          refine ev_virtR (X := M_X11_can) (Y := M_X11_error) (pc := 47) (ci := 11) dX11_can_47 mk_X11_error rfl kw_319 kw_321 kp_0 (lO_100 hL) (c_error (k := 2) hL (by decide) (by decide)) rfl (by decide) rfl (Nat.le_of_ble_eq_true rfl) (Nat.zero_add _) (Nat.zero_add _) ?_
          refine ev_iret (X := M_X11_can) (pc := 50) dX11_can_50 rfl ?_
          refine ⟨by unfold caR; rw [if_pos hok, if_pos h41], rfl, ?_, ?_, hW.2.2.S.er 2⟩
          · rw [err_119]; exact hW.2.1
          · unfold caE; rw [if_pos hok, if_pos h41, err_155, h155]
      · refine ev_aload_n (X := M_X11_can) (pc := 16) dX11_can_16 rfl ?_
        refine ev_ldc (X := M_X11_can) (pc := 17) (v := -1000000001) dX11_can_17 kw_318 (by decide) ?_
        refine ev_virtR (X := M_X11_can) (Y := M_X11_error) (pc := 19) (ci := 11) dX11_can_19 mk_X11_error rfl kw_319 kw_321 kp_0 (lO_100 hL) (c_error (k := 1) hL (by decide) (by decide)) rfl (by decide) rfl (Nat.le_of_ble_eq_true rfl) (Nat.zero_add _) (Nat.zero_add _) ?_
        refine ev_iret (X := M_X11_can) (pc := 22) dX11_can_22 rfl ?_
        refine key (fun z => ?_)
        first
          | omega
          | (rw [if_pos z.1] at h4; exact absurd h4 (by decide))
