/-! ===== the class's small acts ===== -/
def cE (V : Mm) (k : Int) : Mm := if k = 0 then V else err V k
theorem c_of {γ : Gh} {K : Sk} {V : Mm} (hL : Lay K) (hV : SV V) {s0 s : Int} (hn : V 102 4 = s0) (h0 : 0 ≤ s0 ∧ s0 < 2197) (hs : R32 s) : Call γ M_X11_of 1 0 0 [vR 100, vI s] K V (Rt (some (vI (aR (sK s) (cnt s0 s)))) K (cE V (sK s))) := by
  refine call_of (by decide +kernel) (by intro v hv; simp only [List.mem_cons, List.not_mem_nil, or_false] at hv; rcases hv with rfl | rfl <;> exact fun q => by cases q) (Nat.le_of_ble_eq_true rfl) ?_
  refine ev_lsE (ls' := [_, _]) rfl ?_
  refine ev_iload_n (X := M_X11_of) (pc := 0) dX11_of_0 rfl ?_
  refine ev_staticR (X := M_X11_of) (Y := M_X11_isSort) (pc := 1) dX11_of_1 mk_X11_isSort kw_317 kw_235 (c_isSort hs) rfl (by decide) rfl (Nat.le_of_ble_eq_true rfl) (Nat.zero_add _) (Nat.zero_add _) ?_
  refine ev_if_eq (X := M_X11_of) (pc := 4) (tgt := 21) dX11_of_4 (by decide) (by split <;> decide) (fun h4 => ?_) (fun h4 => ?_)
  · have hk : sK s = 1 := by unfold sK; rw [if_neg (fun z => by rw [if_pos z] at h4; exact absurd h4 (by decide))]
    refine ev_aload_n (X := M_X11_of) (pc := 21) dX11_of_21 rfl ?_
    refine ev_ldc (X := M_X11_of) (pc := 22) (v := -1000000001) dX11_of_22 kw_318 (by decide) ?_
    refine ev_virtR (X := M_X11_of) (Y := M_X11_error) (pc := 24) (ci := 11) dX11_of_24 mk_X11_error rfl kw_319 kw_321 kp_0 (lO_100 hL) (c_error hL (k := 1) (by decide) rfl) rfl (by decide) rfl (Nat.le_of_ble_eq_true rfl) (Nat.zero_add _) (Nat.zero_add _) ?_
    refine ev_iret (X := M_X11_of) (pc := 27) dX11_of_27 rfl ?_
    rw [hk]
    exact ⟨rfl, rfl, rfl⟩
  · have hs3 : 0 ≤ s ∧ s < 3 := Decidable.byContradiction fun z => h4 (by rw [if_neg z])
    have hk : sK s = 0 := by unfold sK; rw [if_pos hs3]
    refine ev_aload_n (X := M_X11_of) (pc := 7) dX11_of_7 rfl ?_
    refine ev_getRe (X := M_X11_of) (pc := 8) dX11_of_8 fl_X11_20_11 (lO_100 hL) rfl (lR_100_0 hL) ?_
    refine ev_getIe (X := M_X11_of) (pc := 11) (ki := 4) dX11_of_11 fl_X11_61_2 (lO_102 hL) (by decide) rfl (hn) ?_
    refine ev_iload_n (X := M_X11_of) (pc := 14) dX11_of_14 rfl ?_
    refine ev_staticR (X := M_X11_of) (Y := M_X11_countOf) (pc := 15) dX11_of_15 mk_X11_countOf kw_324 kw_325 (c_countOf hL hV (by omega) hs3) rfl (by decide) rfl (Nat.le_of_ble_eq_true rfl) (Nat.zero_add _) (Nat.zero_add _) ?_
    refine ev_goto (X := M_X11_of) (pc := 18) (tgt := 27) dX11_of_18 (by decide) ?_
    refine ev_iret (X := M_X11_of) (pc := 27) dX11_of_27 rfl ?_
    rw [hk]
    exact ⟨rfl, rfl, rfl⟩
theorem c_seed {γ : Gh} {K : Sk} {V : Mm} (hL : Lay K) {v : Int} : Call γ M_X11_seed 0 0 0 [vR 100, vI v] K V (Rt (some (vI (V 102 8))) K (wr V 102 8 v)) := by
  refine call_of (by decide +kernel) (by intro v hv; simp only [List.mem_cons, List.not_mem_nil, or_false] at hv; rcases hv with rfl | rfl <;> exact fun q => by cases q) (Nat.le_of_ble_eq_true rfl) ?_
  refine ev_lsE (ls' := [_, _, _]) rfl ?_
  refine ev_aload_n (X := M_X11_seed) (pc := 0) dX11_seed_0 rfl ?_
  refine ev_getRe (X := M_X11_seed) (pc := 1) dX11_seed_1 fl_X11_20_11 (lO_100 hL) rfl (lR_100_0 hL) ?_
  refine ev_getI (X := M_X11_seed) (pc := 4) (ki := 8) dX11_seed_4 fl_X11_233_2 (lO_102 hL) (by decide) rfl ?_
  refine ev_istore_nL (X := M_X11_seed) (pc := 7) (ls' := [_, _, _]) dX11_seed_7 (by decide) rfl ?_
  refine ev_aload_n (X := M_X11_seed) (pc := 8) dX11_seed_8 rfl ?_
  refine ev_getRe (X := M_X11_seed) (pc := 9) dX11_seed_9 fl_X11_20_11 (lO_100 hL) rfl (lR_100_0 hL) ?_
  refine ev_iload_n (X := M_X11_seed) (pc := 12) dX11_seed_12 rfl ?_
  refine ev_putI (X := M_X11_seed) (pc := 13) (ki := 8) dX11_seed_13 fl_X11_233_2 (by decide) (lO_102 hL) (fun _ h q => by cases h; cases q) (Or.inl rfl) rfl ?_
  refine ev_iload_n (X := M_X11_seed) (pc := 16) dX11_seed_16 rfl ?_
  refine ev_iret (X := M_X11_seed) (pc := 17) dX11_seed_17 rfl ?_
  exact ⟨rfl, rfl, rfl⟩
theorem c_told {γ : Gh} {K : Sk} {V : Mm} (hL : Lay K) {k : Int} (hk : R32 k) : Call γ M_X11_told 1 0 0 [vR 100, vI k] K V (Rt (some (vI (aR (toK k) (V 155 k)))) K (cE V (toK k))) := by
  refine call_of (by decide +kernel) (by intro v hv; simp only [List.mem_cons, List.not_mem_nil, or_false] at hv; rcases hv with rfl | rfl <;> exact fun q => by cases q) (Nat.le_of_ble_eq_true rfl) ?_
  refine ev_lsE (ls' := [_, _]) rfl ?_
  refine ev_iload_n (X := M_X11_told) (pc := 0) dX11_told_0 rfl ?_
  refine ev_iconst (X := M_X11_told) (pc := 1) dX11_told_1 ?_
  refine ev_icmp_lt (X := M_X11_told) (pc := 2) (tgt := 19) dX11_told_2 (by decide) (by omega) (by omega) (fun h2 => ?_) (fun h2 => ?_)
  · have hk1 : toK k = 1 := by unfold toK; rw [if_neg (by omega)]
    refine ev_aload_n (X := M_X11_told) (pc := 19) dX11_told_19 rfl ?_
    refine ev_ldc (X := M_X11_told) (pc := 20) (v := -1000000001) dX11_told_20 kw_318 (by decide) ?_
    refine ev_virtR (X := M_X11_told) (Y := M_X11_error) (pc := 22) (ci := 11) dX11_told_22 mk_X11_error rfl kw_319 kw_321 kp_0 (lO_100 hL) (c_error hL (k := 1) (by decide) rfl) rfl (by decide) rfl (Nat.le_of_ble_eq_true rfl) (Nat.zero_add _) (Nat.zero_add _) ?_
    refine ev_iret (X := M_X11_told) (pc := 25) dX11_told_25 rfl ?_
    rw [hk1]
    exact ⟨rfl, rfl, rfl⟩
  · refine ev_iload_n (X := M_X11_told) (pc := 5) dX11_told_5 rfl ?_
    refine ev_iconst (X := M_X11_told) (pc := 6) dX11_told_6 ?_
    refine ev_icmp_gt (X := M_X11_told) (pc := 7) (tgt := 19) dX11_told_7 (by decide) (by omega) (by omega) (fun h7 => ?_) (fun h7 => ?_)
    · have hk1 : toK k = 1 := by unfold toK; rw [if_neg (by omega)]
      refine ev_aload_n (X := M_X11_told) (pc := 19) dX11_told_19 rfl ?_
      refine ev_ldc (X := M_X11_told) (pc := 20) (v := -1000000001) dX11_told_20 kw_318 (by decide) ?_
      refine ev_virtR (X := M_X11_told) (Y := M_X11_error) (pc := 22) (ci := 11) dX11_told_22 mk_X11_error rfl kw_319 kw_321 kp_0 (lO_100 hL) (c_error hL (k := 1) (by decide) rfl) rfl (by decide) rfl (Nat.le_of_ble_eq_true rfl) (Nat.zero_add _) (Nat.zero_add _) ?_
      refine ev_iret (X := M_X11_told) (pc := 25) dX11_told_25 rfl ?_
      rw [hk1]
      exact ⟨rfl, rfl, rfl⟩
    · have hk1 : toK k = 0 := by unfold toK; rw [if_pos (by omega)]
      refine ev_aload_n (X := M_X11_told) (pc := 10) dX11_told_10 rfl ?_
      refine ev_getRe (X := M_X11_told) (pc := 11) dX11_told_11 fl_X11_49_11 (lO_100 hL) rfl (lR_100_6 hL) ?_
      refine ev_iload_n (X := M_X11_told) (pc := 14) dX11_told_14 rfl ?_
      refine ev_iaload (X := M_X11_told) (pc := 15) dX11_told_15 (lS_155 hL) (by omega) ?_
      refine ev_goto (X := M_X11_told) (pc := 16) (tgt := 25) dX11_told_16 (by decide) ?_
      refine ev_iret (X := M_X11_told) (pc := 25) dX11_told_25 rfl ?_
      rw [hk1]
      exact ⟨rfl, rfl, rfl⟩
