/-! ===== the class: as, fence, ofPair ===== -/
theorem nc_0_1 : Cond.not (.castable "GreenPath$Law" "GreenPath$Third") ∈ flatC narrow_1 := by decide +kernel
theorem nc_0_2 : Cond.not (.castable "GreenPath$Law" "GreenPath$Eat") ∈ flatC narrow_1 := by decide +kernel
theorem nc_0_3 : Cond.not (.castable "GreenPath$Law" "GreenPath$Split") ∈ flatC narrow_1 := by decide +kernel
theorem nc_0_4 : Cond.not (.castable "GreenPath$Law" "GreenPath$Copy") ∈ flatC narrow_1 := by decide +kernel
theorem nc_0_5 : Cond.not (.castable "GreenPath$Law" "GreenPath$Join") ∈ flatC narrow_1 := by decide +kernel
theorem nc_0_6 : Cond.not (.castable "GreenPath$Law" "GreenPath$Told") ∈ flatC narrow_1 := by decide +kernel
theorem nc_1_2 : Cond.not (.castable "GreenPath$Third" "GreenPath$Eat") ∈ flatC narrow_1 := by decide +kernel
theorem nc_1_3 : Cond.not (.castable "GreenPath$Third" "GreenPath$Split") ∈ flatC narrow_1 := by decide +kernel
theorem nc_1_4 : Cond.not (.castable "GreenPath$Third" "GreenPath$Copy") ∈ flatC narrow_1 := by decide +kernel
theorem nc_1_5 : Cond.not (.castable "GreenPath$Third" "GreenPath$Join") ∈ flatC narrow_1 := by decide +kernel
theorem nc_1_6 : Cond.not (.castable "GreenPath$Third" "GreenPath$Told") ∈ flatC narrow_1 := by decide +kernel
theorem nc_2_1 : Cond.not (.castable "GreenPath$Eat" "GreenPath$Third") ∈ flatC narrow_1 := by decide +kernel
theorem nc_2_3 : Cond.not (.castable "GreenPath$Eat" "GreenPath$Split") ∈ flatC narrow_1 := by decide +kernel
theorem nc_2_4 : Cond.not (.castable "GreenPath$Eat" "GreenPath$Copy") ∈ flatC narrow_1 := by decide +kernel
theorem nc_2_5 : Cond.not (.castable "GreenPath$Eat" "GreenPath$Join") ∈ flatC narrow_1 := by decide +kernel
theorem nc_2_6 : Cond.not (.castable "GreenPath$Eat" "GreenPath$Told") ∈ flatC narrow_1 := by decide +kernel
theorem nc_3_1 : Cond.not (.castable "GreenPath$Split" "GreenPath$Third") ∈ flatC narrow_1 := by decide +kernel
theorem nc_3_2 : Cond.not (.castable "GreenPath$Split" "GreenPath$Eat") ∈ flatC narrow_1 := by decide +kernel
theorem nc_3_4 : Cond.not (.castable "GreenPath$Split" "GreenPath$Copy") ∈ flatC narrow_1 := by decide +kernel
theorem nc_3_5 : Cond.not (.castable "GreenPath$Split" "GreenPath$Join") ∈ flatC narrow_1 := by decide +kernel
theorem nc_3_6 : Cond.not (.castable "GreenPath$Split" "GreenPath$Told") ∈ flatC narrow_1 := by decide +kernel
theorem nc_4_2 : Cond.not (.castable "GreenPath$Copy" "GreenPath$Eat") ∈ flatC narrow_1 := by decide +kernel
theorem nc_4_3 : Cond.not (.castable "GreenPath$Copy" "GreenPath$Split") ∈ flatC narrow_1 := by decide +kernel
theorem nc_4_5 : Cond.not (.castable "GreenPath$Copy" "GreenPath$Join") ∈ flatC narrow_1 := by decide +kernel
theorem nc_4_6 : Cond.not (.castable "GreenPath$Copy" "GreenPath$Told") ∈ flatC narrow_1 := by decide +kernel
theorem nc_5_1 : Cond.not (.castable "GreenPath$Join" "GreenPath$Third") ∈ flatC narrow_1 := by decide +kernel
theorem nc_5_3 : Cond.not (.castable "GreenPath$Join" "GreenPath$Split") ∈ flatC narrow_1 := by decide +kernel
theorem nc_5_4 : Cond.not (.castable "GreenPath$Join" "GreenPath$Copy") ∈ flatC narrow_1 := by decide +kernel
theorem nc_5_6 : Cond.not (.castable "GreenPath$Join" "GreenPath$Told") ∈ flatC narrow_1 := by decide +kernel
theorem nc_6_1 : Cond.not (.castable "GreenPath$Told" "GreenPath$Third") ∈ flatC narrow_1 := by decide +kernel
theorem nc_6_2 : Cond.not (.castable "GreenPath$Told" "GreenPath$Eat") ∈ flatC narrow_1 := by decide +kernel
theorem nc_6_4 : Cond.not (.castable "GreenPath$Told" "GreenPath$Copy") ∈ flatC narrow_1 := by decide +kernel
theorem nc_6_5 : Cond.not (.castable "GreenPath$Told" "GreenPath$Join") ∈ flatC narrow_1 := by decide +kernel
theorem c_isOf_0 {γ : Gh} {K : Sk} {V : Mm} {c : Nat} {k : Int} (hO : (K.1 c).1 = 4 + 10) (hk : 0 ≤ k ∧ k ≤ 6) : Call γ M_X11_isOfKind 0 0 0 [vR c, vI k] K V (Rt (some (vI (if k = 0 ∨ k = 0 ∨ k = abv 0 then 1 else 0))) K V) := by
  refine call_of (by decide +kernel) (by intro v hv; simp only [List.mem_cons, List.not_mem_nil, or_false] at hv; rcases hv with rfl | rfl <;> exact fun q => by cases q) (Nat.le_of_ble_eq_true rfl) ?_
  refine ev_lsE (ls' := [_, _]) rfl ?_
  refine ev_iload_n (X := M_X11_isOfKind) (pc := 0) dX11_isOfKind_0 rfl ?_
  rcases (show k = 1 ∨ k = 2 ∨ k = 3 ∨ k = 4 ∨ k = 5 ∨ k = 6 ∨ (k < 1 ∨ 6 < k) by omega) with h1 | h1 | h1 | h1 | h1 | h1 | h1
  · refine ev_tableIn (X := M_X11_isOfKind) (pc := 1) (off := 39) (tgt := 40) dX11_isOfKind_1 (by omega) (by omega) (by omega) (by rw [h1]; rfl) (by decide) ?_
    refine ev_aload_n (X := M_X11_isOfKind) (pc := 40) dX11_isOfKind_40 rfl ?_
    refine ev_instN (X := M_X11_isOfKind) (pc := 41) (ci := 4) (nm := "GreenPath$Third") dX11_isOfKind_41 rfl hO kw_342 nc_0_1 ?_
    refine ev_bret (X := M_X11_isOfKind) (pc := 44) dX11_isOfKind_44 rfl (by omega) ?_
    refine ⟨congrArg (fun z => some (vI z)) ?_, rfl, rfl⟩
    first
      | (rw [h1]; rfl)
      | (have hz : k = 0 := by omega
         rw [hz]; rfl)
  · refine ev_tableIn (X := M_X11_isOfKind) (pc := 1) (off := 44) (tgt := 45) dX11_isOfKind_1 (by omega) (by omega) (by omega) (by rw [h1]; rfl) (by decide) ?_
    refine ev_aload_n (X := M_X11_isOfKind) (pc := 45) dX11_isOfKind_45 rfl ?_
    refine ev_instN (X := M_X11_isOfKind) (pc := 46) (ci := 4) (nm := "GreenPath$Eat") dX11_isOfKind_46 rfl hO kw_344 nc_0_2 ?_
    refine ev_bret (X := M_X11_isOfKind) (pc := 49) dX11_isOfKind_49 rfl (by omega) ?_
    refine ⟨congrArg (fun z => some (vI z)) ?_, rfl, rfl⟩
    first
      | (rw [h1]; rfl)
      | (have hz : k = 0 := by omega
         rw [hz]; rfl)
  · refine ev_tableIn (X := M_X11_isOfKind) (pc := 1) (off := 49) (tgt := 50) dX11_isOfKind_1 (by omega) (by omega) (by omega) (by rw [h1]; rfl) (by decide) ?_
    refine ev_aload_n (X := M_X11_isOfKind) (pc := 50) dX11_isOfKind_50 rfl ?_
    refine ev_instN (X := M_X11_isOfKind) (pc := 51) (ci := 4) (nm := "GreenPath$Split") dX11_isOfKind_51 rfl hO kw_356 nc_0_3 ?_
    refine ev_bret (X := M_X11_isOfKind) (pc := 54) dX11_isOfKind_54 rfl (by omega) ?_
    refine ⟨congrArg (fun z => some (vI z)) ?_, rfl, rfl⟩
    first
      | (rw [h1]; rfl)
      | (have hz : k = 0 := by omega
         rw [hz]; rfl)
  · refine ev_tableIn (X := M_X11_isOfKind) (pc := 1) (off := 54) (tgt := 55) dX11_isOfKind_1 (by omega) (by omega) (by omega) (by rw [h1]; rfl) (by decide) ?_
    refine ev_aload_n (X := M_X11_isOfKind) (pc := 55) dX11_isOfKind_55 rfl ?_
    refine ev_instN (X := M_X11_isOfKind) (pc := 56) (ci := 4) (nm := "GreenPath$Copy") dX11_isOfKind_56 rfl hO kw_367 nc_0_4 ?_
    refine ev_bret (X := M_X11_isOfKind) (pc := 59) dX11_isOfKind_59 rfl (by omega) ?_
    refine ⟨congrArg (fun z => some (vI z)) ?_, rfl, rfl⟩
    first
      | (rw [h1]; rfl)
      | (have hz : k = 0 := by omega
         rw [hz]; rfl)
  · refine ev_tableIn (X := M_X11_isOfKind) (pc := 1) (off := 59) (tgt := 60) dX11_isOfKind_1 (by omega) (by omega) (by omega) (by rw [h1]; rfl) (by decide) ?_
    refine ev_aload_n (X := M_X11_isOfKind) (pc := 60) dX11_isOfKind_60 rfl ?_
    refine ev_instN (X := M_X11_isOfKind) (pc := 61) (ci := 4) (nm := "GreenPath$Join") dX11_isOfKind_61 rfl hO kw_378 nc_0_5 ?_
    refine ev_bret (X := M_X11_isOfKind) (pc := 64) dX11_isOfKind_64 rfl (by omega) ?_
    refine ⟨congrArg (fun z => some (vI z)) ?_, rfl, rfl⟩
    first
      | (rw [h1]; rfl)
      | (have hz : k = 0 := by omega
         rw [hz]; rfl)
  · refine ev_tableIn (X := M_X11_isOfKind) (pc := 1) (off := 64) (tgt := 65) dX11_isOfKind_1 (by omega) (by omega) (by omega) (by rw [h1]; rfl) (by decide) ?_
    refine ev_aload_n (X := M_X11_isOfKind) (pc := 65) dX11_isOfKind_65 rfl ?_
    refine ev_instN (X := M_X11_isOfKind) (pc := 66) (ci := 4) (nm := "GreenPath$Told") dX11_isOfKind_66 rfl hO kw_389 nc_0_6 ?_
    refine ev_bret (X := M_X11_isOfKind) (pc := 69) dX11_isOfKind_69 rfl (by omega) ?_
    refine ⟨congrArg (fun z => some (vI z)) ?_, rfl, rfl⟩
    first
      | (rw [h1]; rfl)
      | (have hz : k = 0 := by omega
         rw [hz]; rfl)
  · refine ev_tableOut (X := M_X11_isOfKind) (pc := 1) (tgt := 70) dX11_isOfKind_1 (by omega) (by omega) (by decide) ?_
    refine ev_iconst (X := M_X11_isOfKind) (pc := 70) dX11_isOfKind_70 ?_
    refine ev_bret (X := M_X11_isOfKind) (pc := 71) dX11_isOfKind_71 rfl (by omega) ?_
    refine ⟨congrArg (fun z => some (vI z)) ?_, rfl, rfl⟩
    first
      | (rw [h1]; rfl)
      | (have hz : k = 0 := by omega
         rw [hz]; rfl)
theorem c_isOf_1 {γ : Gh} {K : Sk} {V : Mm} {c : Nat} {k : Int} (hO : (K.1 c).1 = 9 + 10) (hk : 0 ≤ k ∧ k ≤ 6) : Call γ M_X11_isOfKind 0 0 0 [vR c, vI k] K V (Rt (some (vI (if k = 0 ∨ k = 1 ∨ k = abv 1 then 1 else 0))) K V) := by
  refine call_of (by decide +kernel) (by intro v hv; simp only [List.mem_cons, List.not_mem_nil, or_false] at hv; rcases hv with rfl | rfl <;> exact fun q => by cases q) (Nat.le_of_ble_eq_true rfl) ?_
  refine ev_lsE (ls' := [_, _]) rfl ?_
  refine ev_iload_n (X := M_X11_isOfKind) (pc := 0) dX11_isOfKind_0 rfl ?_
  rcases (show k = 1 ∨ k = 2 ∨ k = 3 ∨ k = 4 ∨ k = 5 ∨ k = 6 ∨ (k < 1 ∨ 6 < k) by omega) with h1 | h1 | h1 | h1 | h1 | h1 | h1
  · refine ev_tableIn (X := M_X11_isOfKind) (pc := 1) (off := 39) (tgt := 40) dX11_isOfKind_1 (by omega) (by omega) (by omega) (by rw [h1]; rfl) (by decide) ?_
    refine ev_aload_n (X := M_X11_isOfKind) (pc := 40) dX11_isOfKind_40 rfl ?_
    refine ev_instS (X := M_X11_isOfKind) (pc := 41) (ci := 9) dX11_isOfKind_41 rfl hO kw_342 ?_
    refine ev_bret (X := M_X11_isOfKind) (pc := 44) dX11_isOfKind_44 rfl (by omega) ?_
    refine ⟨congrArg (fun z => some (vI z)) ?_, rfl, rfl⟩
    first
      | (rw [h1]; rfl)
      | (have hz : k = 0 := by omega
         rw [hz]; rfl)
  · refine ev_tableIn (X := M_X11_isOfKind) (pc := 1) (off := 44) (tgt := 45) dX11_isOfKind_1 (by omega) (by omega) (by omega) (by rw [h1]; rfl) (by decide) ?_
    refine ev_aload_n (X := M_X11_isOfKind) (pc := 45) dX11_isOfKind_45 rfl ?_
    refine ev_instN (X := M_X11_isOfKind) (pc := 46) (ci := 9) (nm := "GreenPath$Eat") dX11_isOfKind_46 rfl hO kw_344 nc_1_2 ?_
    refine ev_bret (X := M_X11_isOfKind) (pc := 49) dX11_isOfKind_49 rfl (by omega) ?_
    refine ⟨congrArg (fun z => some (vI z)) ?_, rfl, rfl⟩
    first
      | (rw [h1]; rfl)
      | (have hz : k = 0 := by omega
         rw [hz]; rfl)
  · refine ev_tableIn (X := M_X11_isOfKind) (pc := 1) (off := 49) (tgt := 50) dX11_isOfKind_1 (by omega) (by omega) (by omega) (by rw [h1]; rfl) (by decide) ?_
    refine ev_aload_n (X := M_X11_isOfKind) (pc := 50) dX11_isOfKind_50 rfl ?_
    refine ev_instN (X := M_X11_isOfKind) (pc := 51) (ci := 9) (nm := "GreenPath$Split") dX11_isOfKind_51 rfl hO kw_356 nc_1_3 ?_
    refine ev_bret (X := M_X11_isOfKind) (pc := 54) dX11_isOfKind_54 rfl (by omega) ?_
    refine ⟨congrArg (fun z => some (vI z)) ?_, rfl, rfl⟩
    first
      | (rw [h1]; rfl)
      | (have hz : k = 0 := by omega
         rw [hz]; rfl)
  · refine ev_tableIn (X := M_X11_isOfKind) (pc := 1) (off := 54) (tgt := 55) dX11_isOfKind_1 (by omega) (by omega) (by omega) (by rw [h1]; rfl) (by decide) ?_
    refine ev_aload_n (X := M_X11_isOfKind) (pc := 55) dX11_isOfKind_55 rfl ?_
    refine ev_instN (X := M_X11_isOfKind) (pc := 56) (ci := 9) (nm := "GreenPath$Copy") dX11_isOfKind_56 rfl hO kw_367 nc_1_4 ?_
    refine ev_bret (X := M_X11_isOfKind) (pc := 59) dX11_isOfKind_59 rfl (by omega) ?_
    refine ⟨congrArg (fun z => some (vI z)) ?_, rfl, rfl⟩
    first
      | (rw [h1]; rfl)
      | (have hz : k = 0 := by omega
         rw [hz]; rfl)
  · refine ev_tableIn (X := M_X11_isOfKind) (pc := 1) (off := 59) (tgt := 60) dX11_isOfKind_1 (by omega) (by omega) (by omega) (by rw [h1]; rfl) (by decide) ?_
    refine ev_aload_n (X := M_X11_isOfKind) (pc := 60) dX11_isOfKind_60 rfl ?_
    refine ev_instN (X := M_X11_isOfKind) (pc := 61) (ci := 9) (nm := "GreenPath$Join") dX11_isOfKind_61 rfl hO kw_378 nc_1_5 ?_
    refine ev_bret (X := M_X11_isOfKind) (pc := 64) dX11_isOfKind_64 rfl (by omega) ?_
    refine ⟨congrArg (fun z => some (vI z)) ?_, rfl, rfl⟩
    first
      | (rw [h1]; rfl)
      | (have hz : k = 0 := by omega
         rw [hz]; rfl)
  · refine ev_tableIn (X := M_X11_isOfKind) (pc := 1) (off := 64) (tgt := 65) dX11_isOfKind_1 (by omega) (by omega) (by omega) (by rw [h1]; rfl) (by decide) ?_
    refine ev_aload_n (X := M_X11_isOfKind) (pc := 65) dX11_isOfKind_65 rfl ?_
    refine ev_instN (X := M_X11_isOfKind) (pc := 66) (ci := 9) (nm := "GreenPath$Told") dX11_isOfKind_66 rfl hO kw_389 nc_1_6 ?_
    refine ev_bret (X := M_X11_isOfKind) (pc := 69) dX11_isOfKind_69 rfl (by omega) ?_
    refine ⟨congrArg (fun z => some (vI z)) ?_, rfl, rfl⟩
    first
      | (rw [h1]; rfl)
      | (have hz : k = 0 := by omega
         rw [hz]; rfl)
  · refine ev_tableOut (X := M_X11_isOfKind) (pc := 1) (tgt := 70) dX11_isOfKind_1 (by omega) (by omega) (by decide) ?_
    refine ev_iconst (X := M_X11_isOfKind) (pc := 70) dX11_isOfKind_70 ?_
    refine ev_bret (X := M_X11_isOfKind) (pc := 71) dX11_isOfKind_71 rfl (by omega) ?_
    refine ⟨congrArg (fun z => some (vI z)) ?_, rfl, rfl⟩
    first
      | (rw [h1]; rfl)
      | (have hz : k = 0 := by omega
         rw [hz]; rfl)
theorem c_isOf_2 {γ : Gh} {K : Sk} {V : Mm} {c : Nat} {k : Int} (hO : (K.1 c).1 = 1 + 10) (hk : 0 ≤ k ∧ k ≤ 6) : Call γ M_X11_isOfKind 0 0 0 [vR c, vI k] K V (Rt (some (vI (if k = 0 ∨ k = 2 ∨ k = abv 2 then 1 else 0))) K V) := by
  refine call_of (by decide +kernel) (by intro v hv; simp only [List.mem_cons, List.not_mem_nil, or_false] at hv; rcases hv with rfl | rfl <;> exact fun q => by cases q) (Nat.le_of_ble_eq_true rfl) ?_
  refine ev_lsE (ls' := [_, _]) rfl ?_
  refine ev_iload_n (X := M_X11_isOfKind) (pc := 0) dX11_isOfKind_0 rfl ?_
  rcases (show k = 1 ∨ k = 2 ∨ k = 3 ∨ k = 4 ∨ k = 5 ∨ k = 6 ∨ (k < 1 ∨ 6 < k) by omega) with h1 | h1 | h1 | h1 | h1 | h1 | h1
  · refine ev_tableIn (X := M_X11_isOfKind) (pc := 1) (off := 39) (tgt := 40) dX11_isOfKind_1 (by omega) (by omega) (by omega) (by rw [h1]; rfl) (by decide) ?_
    refine ev_aload_n (X := M_X11_isOfKind) (pc := 40) dX11_isOfKind_40 rfl ?_
    refine ev_instN (X := M_X11_isOfKind) (pc := 41) (ci := 1) (nm := "GreenPath$Third") dX11_isOfKind_41 rfl hO kw_342 nc_2_1 ?_
    refine ev_bret (X := M_X11_isOfKind) (pc := 44) dX11_isOfKind_44 rfl (by omega) ?_
    refine ⟨congrArg (fun z => some (vI z)) ?_, rfl, rfl⟩
    first
      | (rw [h1]; rfl)
      | (have hz : k = 0 := by omega
         rw [hz]; rfl)
  · refine ev_tableIn (X := M_X11_isOfKind) (pc := 1) (off := 44) (tgt := 45) dX11_isOfKind_1 (by omega) (by omega) (by omega) (by rw [h1]; rfl) (by decide) ?_
    refine ev_aload_n (X := M_X11_isOfKind) (pc := 45) dX11_isOfKind_45 rfl ?_
    refine ev_instS (X := M_X11_isOfKind) (pc := 46) (ci := 1) dX11_isOfKind_46 rfl hO kw_344 ?_
    refine ev_bret (X := M_X11_isOfKind) (pc := 49) dX11_isOfKind_49 rfl (by omega) ?_
    refine ⟨congrArg (fun z => some (vI z)) ?_, rfl, rfl⟩
    first
      | (rw [h1]; rfl)
      | (have hz : k = 0 := by omega
         rw [hz]; rfl)
  · refine ev_tableIn (X := M_X11_isOfKind) (pc := 1) (off := 49) (tgt := 50) dX11_isOfKind_1 (by omega) (by omega) (by omega) (by rw [h1]; rfl) (by decide) ?_
    refine ev_aload_n (X := M_X11_isOfKind) (pc := 50) dX11_isOfKind_50 rfl ?_
    refine ev_instN (X := M_X11_isOfKind) (pc := 51) (ci := 1) (nm := "GreenPath$Split") dX11_isOfKind_51 rfl hO kw_356 nc_2_3 ?_
    refine ev_bret (X := M_X11_isOfKind) (pc := 54) dX11_isOfKind_54 rfl (by omega) ?_
    refine ⟨congrArg (fun z => some (vI z)) ?_, rfl, rfl⟩
    first
      | (rw [h1]; rfl)
      | (have hz : k = 0 := by omega
         rw [hz]; rfl)
  · refine ev_tableIn (X := M_X11_isOfKind) (pc := 1) (off := 54) (tgt := 55) dX11_isOfKind_1 (by omega) (by omega) (by omega) (by rw [h1]; rfl) (by decide) ?_
    refine ev_aload_n (X := M_X11_isOfKind) (pc := 55) dX11_isOfKind_55 rfl ?_
    refine ev_instN (X := M_X11_isOfKind) (pc := 56) (ci := 1) (nm := "GreenPath$Copy") dX11_isOfKind_56 rfl hO kw_367 nc_2_4 ?_
    refine ev_bret (X := M_X11_isOfKind) (pc := 59) dX11_isOfKind_59 rfl (by omega) ?_
    refine ⟨congrArg (fun z => some (vI z)) ?_, rfl, rfl⟩
    first
      | (rw [h1]; rfl)
      | (have hz : k = 0 := by omega
         rw [hz]; rfl)
  · refine ev_tableIn (X := M_X11_isOfKind) (pc := 1) (off := 59) (tgt := 60) dX11_isOfKind_1 (by omega) (by omega) (by omega) (by rw [h1]; rfl) (by decide) ?_
    refine ev_aload_n (X := M_X11_isOfKind) (pc := 60) dX11_isOfKind_60 rfl ?_
    refine ev_instN (X := M_X11_isOfKind) (pc := 61) (ci := 1) (nm := "GreenPath$Join") dX11_isOfKind_61 rfl hO kw_378 nc_2_5 ?_
    refine ev_bret (X := M_X11_isOfKind) (pc := 64) dX11_isOfKind_64 rfl (by omega) ?_
    refine ⟨congrArg (fun z => some (vI z)) ?_, rfl, rfl⟩
    first
      | (rw [h1]; rfl)
      | (have hz : k = 0 := by omega
         rw [hz]; rfl)
  · refine ev_tableIn (X := M_X11_isOfKind) (pc := 1) (off := 64) (tgt := 65) dX11_isOfKind_1 (by omega) (by omega) (by omega) (by rw [h1]; rfl) (by decide) ?_
    refine ev_aload_n (X := M_X11_isOfKind) (pc := 65) dX11_isOfKind_65 rfl ?_
    refine ev_instN (X := M_X11_isOfKind) (pc := 66) (ci := 1) (nm := "GreenPath$Told") dX11_isOfKind_66 rfl hO kw_389 nc_2_6 ?_
    refine ev_bret (X := M_X11_isOfKind) (pc := 69) dX11_isOfKind_69 rfl (by omega) ?_
    refine ⟨congrArg (fun z => some (vI z)) ?_, rfl, rfl⟩
    first
      | (rw [h1]; rfl)
      | (have hz : k = 0 := by omega
         rw [hz]; rfl)
  · refine ev_tableOut (X := M_X11_isOfKind) (pc := 1) (tgt := 70) dX11_isOfKind_1 (by omega) (by omega) (by decide) ?_
    refine ev_iconst (X := M_X11_isOfKind) (pc := 70) dX11_isOfKind_70 ?_
    refine ev_bret (X := M_X11_isOfKind) (pc := 71) dX11_isOfKind_71 rfl (by omega) ?_
    refine ⟨congrArg (fun z => some (vI z)) ?_, rfl, rfl⟩
    first
      | (rw [h1]; rfl)
      | (have hz : k = 0 := by omega
         rw [hz]; rfl)
theorem c_isOf_3 {γ : Gh} {K : Sk} {V : Mm} {c : Nat} {k : Int} (hO : (K.1 c).1 = 7 + 10) (hk : 0 ≤ k ∧ k ≤ 6) : Call γ M_X11_isOfKind 0 0 0 [vR c, vI k] K V (Rt (some (vI (if k = 0 ∨ k = 3 ∨ k = abv 3 then 1 else 0))) K V) := by
  refine call_of (by decide +kernel) (by intro v hv; simp only [List.mem_cons, List.not_mem_nil, or_false] at hv; rcases hv with rfl | rfl <;> exact fun q => by cases q) (Nat.le_of_ble_eq_true rfl) ?_
  refine ev_lsE (ls' := [_, _]) rfl ?_
  refine ev_iload_n (X := M_X11_isOfKind) (pc := 0) dX11_isOfKind_0 rfl ?_
  rcases (show k = 1 ∨ k = 2 ∨ k = 3 ∨ k = 4 ∨ k = 5 ∨ k = 6 ∨ (k < 1 ∨ 6 < k) by omega) with h1 | h1 | h1 | h1 | h1 | h1 | h1
  · refine ev_tableIn (X := M_X11_isOfKind) (pc := 1) (off := 39) (tgt := 40) dX11_isOfKind_1 (by omega) (by omega) (by omega) (by rw [h1]; rfl) (by decide) ?_
    refine ev_aload_n (X := M_X11_isOfKind) (pc := 40) dX11_isOfKind_40 rfl ?_
    refine ev_instN (X := M_X11_isOfKind) (pc := 41) (ci := 7) (nm := "GreenPath$Third") dX11_isOfKind_41 rfl hO kw_342 nc_3_1 ?_
    refine ev_bret (X := M_X11_isOfKind) (pc := 44) dX11_isOfKind_44 rfl (by omega) ?_
    refine ⟨congrArg (fun z => some (vI z)) ?_, rfl, rfl⟩
    first
      | (rw [h1]; rfl)
      | (have hz : k = 0 := by omega
         rw [hz]; rfl)
  · refine ev_tableIn (X := M_X11_isOfKind) (pc := 1) (off := 44) (tgt := 45) dX11_isOfKind_1 (by omega) (by omega) (by omega) (by rw [h1]; rfl) (by decide) ?_
    refine ev_aload_n (X := M_X11_isOfKind) (pc := 45) dX11_isOfKind_45 rfl ?_
    refine ev_instN (X := M_X11_isOfKind) (pc := 46) (ci := 7) (nm := "GreenPath$Eat") dX11_isOfKind_46 rfl hO kw_344 nc_3_2 ?_
    refine ev_bret (X := M_X11_isOfKind) (pc := 49) dX11_isOfKind_49 rfl (by omega) ?_
    refine ⟨congrArg (fun z => some (vI z)) ?_, rfl, rfl⟩
    first
      | (rw [h1]; rfl)
      | (have hz : k = 0 := by omega
         rw [hz]; rfl)
  · refine ev_tableIn (X := M_X11_isOfKind) (pc := 1) (off := 49) (tgt := 50) dX11_isOfKind_1 (by omega) (by omega) (by omega) (by rw [h1]; rfl) (by decide) ?_
    refine ev_aload_n (X := M_X11_isOfKind) (pc := 50) dX11_isOfKind_50 rfl ?_
    refine ev_instS (X := M_X11_isOfKind) (pc := 51) (ci := 7) dX11_isOfKind_51 rfl hO kw_356 ?_
    refine ev_bret (X := M_X11_isOfKind) (pc := 54) dX11_isOfKind_54 rfl (by omega) ?_
    refine ⟨congrArg (fun z => some (vI z)) ?_, rfl, rfl⟩
    first
      | (rw [h1]; rfl)
      | (have hz : k = 0 := by omega
         rw [hz]; rfl)
  · refine ev_tableIn (X := M_X11_isOfKind) (pc := 1) (off := 54) (tgt := 55) dX11_isOfKind_1 (by omega) (by omega) (by omega) (by rw [h1]; rfl) (by decide) ?_
    refine ev_aload_n (X := M_X11_isOfKind) (pc := 55) dX11_isOfKind_55 rfl ?_
    refine ev_instN (X := M_X11_isOfKind) (pc := 56) (ci := 7) (nm := "GreenPath$Copy") dX11_isOfKind_56 rfl hO kw_367 nc_3_4 ?_
    refine ev_bret (X := M_X11_isOfKind) (pc := 59) dX11_isOfKind_59 rfl (by omega) ?_
    refine ⟨congrArg (fun z => some (vI z)) ?_, rfl, rfl⟩
    first
      | (rw [h1]; rfl)
      | (have hz : k = 0 := by omega
         rw [hz]; rfl)
  · refine ev_tableIn (X := M_X11_isOfKind) (pc := 1) (off := 59) (tgt := 60) dX11_isOfKind_1 (by omega) (by omega) (by omega) (by rw [h1]; rfl) (by decide) ?_
    refine ev_aload_n (X := M_X11_isOfKind) (pc := 60) dX11_isOfKind_60 rfl ?_
    refine ev_instN (X := M_X11_isOfKind) (pc := 61) (ci := 7) (nm := "GreenPath$Join") dX11_isOfKind_61 rfl hO kw_378 nc_3_5 ?_
    refine ev_bret (X := M_X11_isOfKind) (pc := 64) dX11_isOfKind_64 rfl (by omega) ?_
    refine ⟨congrArg (fun z => some (vI z)) ?_, rfl, rfl⟩
    first
      | (rw [h1]; rfl)
      | (have hz : k = 0 := by omega
         rw [hz]; rfl)
  · refine ev_tableIn (X := M_X11_isOfKind) (pc := 1) (off := 64) (tgt := 65) dX11_isOfKind_1 (by omega) (by omega) (by omega) (by rw [h1]; rfl) (by decide) ?_
    refine ev_aload_n (X := M_X11_isOfKind) (pc := 65) dX11_isOfKind_65 rfl ?_
    refine ev_instN (X := M_X11_isOfKind) (pc := 66) (ci := 7) (nm := "GreenPath$Told") dX11_isOfKind_66 rfl hO kw_389 nc_3_6 ?_
    refine ev_bret (X := M_X11_isOfKind) (pc := 69) dX11_isOfKind_69 rfl (by omega) ?_
    refine ⟨congrArg (fun z => some (vI z)) ?_, rfl, rfl⟩
    first
      | (rw [h1]; rfl)
      | (have hz : k = 0 := by omega
         rw [hz]; rfl)
  · refine ev_tableOut (X := M_X11_isOfKind) (pc := 1) (tgt := 70) dX11_isOfKind_1 (by omega) (by omega) (by decide) ?_
    refine ev_iconst (X := M_X11_isOfKind) (pc := 70) dX11_isOfKind_70 ?_
    refine ev_bret (X := M_X11_isOfKind) (pc := 71) dX11_isOfKind_71 rfl (by omega) ?_
    refine ⟨congrArg (fun z => some (vI z)) ?_, rfl, rfl⟩
    first
      | (rw [h1]; rfl)
      | (have hz : k = 0 := by omega
         rw [hz]; rfl)
theorem c_isOf_4 {γ : Gh} {K : Sk} {V : Mm} {c : Nat} {k : Int} (hO : (K.1 c).1 = 0 + 10) (hk : 0 ≤ k ∧ k ≤ 6) : Call γ M_X11_isOfKind 0 0 0 [vR c, vI k] K V (Rt (some (vI (if k = 0 ∨ k = 4 ∨ k = abv 4 then 1 else 0))) K V) := by
  refine call_of (by decide +kernel) (by intro v hv; simp only [List.mem_cons, List.not_mem_nil, or_false] at hv; rcases hv with rfl | rfl <;> exact fun q => by cases q) (Nat.le_of_ble_eq_true rfl) ?_
  refine ev_lsE (ls' := [_, _]) rfl ?_
  refine ev_iload_n (X := M_X11_isOfKind) (pc := 0) dX11_isOfKind_0 rfl ?_
  rcases (show k = 1 ∨ k = 2 ∨ k = 3 ∨ k = 4 ∨ k = 5 ∨ k = 6 ∨ (k < 1 ∨ 6 < k) by omega) with h1 | h1 | h1 | h1 | h1 | h1 | h1
  · refine ev_tableIn (X := M_X11_isOfKind) (pc := 1) (off := 39) (tgt := 40) dX11_isOfKind_1 (by omega) (by omega) (by omega) (by rw [h1]; rfl) (by decide) ?_
    refine ev_aload_n (X := M_X11_isOfKind) (pc := 40) dX11_isOfKind_40 rfl ?_
    refine ev_instY (X := M_X11_isOfKind) (pc := 41) (ci := 0) (nm := "GreenPath$Third") dX11_isOfKind_41 rfl hO kw_342 kn_1460 ?_
    refine ev_bret (X := M_X11_isOfKind) (pc := 44) dX11_isOfKind_44 rfl (by omega) ?_
    refine ⟨congrArg (fun z => some (vI z)) ?_, rfl, rfl⟩
    first
      | (rw [h1]; rfl)
      | (have hz : k = 0 := by omega
         rw [hz]; rfl)
  · refine ev_tableIn (X := M_X11_isOfKind) (pc := 1) (off := 44) (tgt := 45) dX11_isOfKind_1 (by omega) (by omega) (by omega) (by rw [h1]; rfl) (by decide) ?_
    refine ev_aload_n (X := M_X11_isOfKind) (pc := 45) dX11_isOfKind_45 rfl ?_
    refine ev_instN (X := M_X11_isOfKind) (pc := 46) (ci := 0) (nm := "GreenPath$Eat") dX11_isOfKind_46 rfl hO kw_344 nc_4_2 ?_
    refine ev_bret (X := M_X11_isOfKind) (pc := 49) dX11_isOfKind_49 rfl (by omega) ?_
    refine ⟨congrArg (fun z => some (vI z)) ?_, rfl, rfl⟩
    first
      | (rw [h1]; rfl)
      | (have hz : k = 0 := by omega
         rw [hz]; rfl)
  · refine ev_tableIn (X := M_X11_isOfKind) (pc := 1) (off := 49) (tgt := 50) dX11_isOfKind_1 (by omega) (by omega) (by omega) (by rw [h1]; rfl) (by decide) ?_
    refine ev_aload_n (X := M_X11_isOfKind) (pc := 50) dX11_isOfKind_50 rfl ?_
    refine ev_instN (X := M_X11_isOfKind) (pc := 51) (ci := 0) (nm := "GreenPath$Split") dX11_isOfKind_51 rfl hO kw_356 nc_4_3 ?_
    refine ev_bret (X := M_X11_isOfKind) (pc := 54) dX11_isOfKind_54 rfl (by omega) ?_
    refine ⟨congrArg (fun z => some (vI z)) ?_, rfl, rfl⟩
    first
      | (rw [h1]; rfl)
      | (have hz : k = 0 := by omega
         rw [hz]; rfl)
  · refine ev_tableIn (X := M_X11_isOfKind) (pc := 1) (off := 54) (tgt := 55) dX11_isOfKind_1 (by omega) (by omega) (by omega) (by rw [h1]; rfl) (by decide) ?_
    refine ev_aload_n (X := M_X11_isOfKind) (pc := 55) dX11_isOfKind_55 rfl ?_
    refine ev_instS (X := M_X11_isOfKind) (pc := 56) (ci := 0) dX11_isOfKind_56 rfl hO kw_367 ?_
    refine ev_bret (X := M_X11_isOfKind) (pc := 59) dX11_isOfKind_59 rfl (by omega) ?_
    refine ⟨congrArg (fun z => some (vI z)) ?_, rfl, rfl⟩
    first
      | (rw [h1]; rfl)
      | (have hz : k = 0 := by omega
         rw [hz]; rfl)
  · refine ev_tableIn (X := M_X11_isOfKind) (pc := 1) (off := 59) (tgt := 60) dX11_isOfKind_1 (by omega) (by omega) (by omega) (by rw [h1]; rfl) (by decide) ?_
    refine ev_aload_n (X := M_X11_isOfKind) (pc := 60) dX11_isOfKind_60 rfl ?_
    refine ev_instN (X := M_X11_isOfKind) (pc := 61) (ci := 0) (nm := "GreenPath$Join") dX11_isOfKind_61 rfl hO kw_378 nc_4_5 ?_
    refine ev_bret (X := M_X11_isOfKind) (pc := 64) dX11_isOfKind_64 rfl (by omega) ?_
    refine ⟨congrArg (fun z => some (vI z)) ?_, rfl, rfl⟩
    first
      | (rw [h1]; rfl)
      | (have hz : k = 0 := by omega
         rw [hz]; rfl)
  · refine ev_tableIn (X := M_X11_isOfKind) (pc := 1) (off := 64) (tgt := 65) dX11_isOfKind_1 (by omega) (by omega) (by omega) (by rw [h1]; rfl) (by decide) ?_
    refine ev_aload_n (X := M_X11_isOfKind) (pc := 65) dX11_isOfKind_65 rfl ?_
    refine ev_instN (X := M_X11_isOfKind) (pc := 66) (ci := 0) (nm := "GreenPath$Told") dX11_isOfKind_66 rfl hO kw_389 nc_4_6 ?_
    refine ev_bret (X := M_X11_isOfKind) (pc := 69) dX11_isOfKind_69 rfl (by omega) ?_
    refine ⟨congrArg (fun z => some (vI z)) ?_, rfl, rfl⟩
    first
      | (rw [h1]; rfl)
      | (have hz : k = 0 := by omega
         rw [hz]; rfl)
  · refine ev_tableOut (X := M_X11_isOfKind) (pc := 1) (tgt := 70) dX11_isOfKind_1 (by omega) (by omega) (by decide) ?_
    refine ev_iconst (X := M_X11_isOfKind) (pc := 70) dX11_isOfKind_70 ?_
    refine ev_bret (X := M_X11_isOfKind) (pc := 71) dX11_isOfKind_71 rfl (by omega) ?_
    refine ⟨congrArg (fun z => some (vI z)) ?_, rfl, rfl⟩
    first
      | (rw [h1]; rfl)
      | (have hz : k = 0 := by omega
         rw [hz]; rfl)
theorem c_isOf_5 {γ : Gh} {K : Sk} {V : Mm} {c : Nat} {k : Int} (hO : (K.1 c).1 = 3 + 10) (hk : 0 ≤ k ∧ k ≤ 6) : Call γ M_X11_isOfKind 0 0 0 [vR c, vI k] K V (Rt (some (vI (if k = 0 ∨ k = 5 ∨ k = abv 5 then 1 else 0))) K V) := by
  refine call_of (by decide +kernel) (by intro v hv; simp only [List.mem_cons, List.not_mem_nil, or_false] at hv; rcases hv with rfl | rfl <;> exact fun q => by cases q) (Nat.le_of_ble_eq_true rfl) ?_
  refine ev_lsE (ls' := [_, _]) rfl ?_
  refine ev_iload_n (X := M_X11_isOfKind) (pc := 0) dX11_isOfKind_0 rfl ?_
  rcases (show k = 1 ∨ k = 2 ∨ k = 3 ∨ k = 4 ∨ k = 5 ∨ k = 6 ∨ (k < 1 ∨ 6 < k) by omega) with h1 | h1 | h1 | h1 | h1 | h1 | h1
  · refine ev_tableIn (X := M_X11_isOfKind) (pc := 1) (off := 39) (tgt := 40) dX11_isOfKind_1 (by omega) (by omega) (by omega) (by rw [h1]; rfl) (by decide) ?_
    refine ev_aload_n (X := M_X11_isOfKind) (pc := 40) dX11_isOfKind_40 rfl ?_
    refine ev_instN (X := M_X11_isOfKind) (pc := 41) (ci := 3) (nm := "GreenPath$Third") dX11_isOfKind_41 rfl hO kw_342 nc_5_1 ?_
    refine ev_bret (X := M_X11_isOfKind) (pc := 44) dX11_isOfKind_44 rfl (by omega) ?_
    refine ⟨congrArg (fun z => some (vI z)) ?_, rfl, rfl⟩
    first
      | (rw [h1]; rfl)
      | (have hz : k = 0 := by omega
         rw [hz]; rfl)
  · refine ev_tableIn (X := M_X11_isOfKind) (pc := 1) (off := 44) (tgt := 45) dX11_isOfKind_1 (by omega) (by omega) (by omega) (by rw [h1]; rfl) (by decide) ?_
    refine ev_aload_n (X := M_X11_isOfKind) (pc := 45) dX11_isOfKind_45 rfl ?_
    refine ev_instY (X := M_X11_isOfKind) (pc := 46) (ci := 3) (nm := "GreenPath$Eat") dX11_isOfKind_46 rfl hO kw_344 kn_1461 ?_
    refine ev_bret (X := M_X11_isOfKind) (pc := 49) dX11_isOfKind_49 rfl (by omega) ?_
    refine ⟨congrArg (fun z => some (vI z)) ?_, rfl, rfl⟩
    first
      | (rw [h1]; rfl)
      | (have hz : k = 0 := by omega
         rw [hz]; rfl)
  · refine ev_tableIn (X := M_X11_isOfKind) (pc := 1) (off := 49) (tgt := 50) dX11_isOfKind_1 (by omega) (by omega) (by omega) (by rw [h1]; rfl) (by decide) ?_
    refine ev_aload_n (X := M_X11_isOfKind) (pc := 50) dX11_isOfKind_50 rfl ?_
    refine ev_instN (X := M_X11_isOfKind) (pc := 51) (ci := 3) (nm := "GreenPath$Split") dX11_isOfKind_51 rfl hO kw_356 nc_5_3 ?_
    refine ev_bret (X := M_X11_isOfKind) (pc := 54) dX11_isOfKind_54 rfl (by omega) ?_
    refine ⟨congrArg (fun z => some (vI z)) ?_, rfl, rfl⟩
    first
      | (rw [h1]; rfl)
      | (have hz : k = 0 := by omega
         rw [hz]; rfl)
  · refine ev_tableIn (X := M_X11_isOfKind) (pc := 1) (off := 54) (tgt := 55) dX11_isOfKind_1 (by omega) (by omega) (by omega) (by rw [h1]; rfl) (by decide) ?_
    refine ev_aload_n (X := M_X11_isOfKind) (pc := 55) dX11_isOfKind_55 rfl ?_
    refine ev_instN (X := M_X11_isOfKind) (pc := 56) (ci := 3) (nm := "GreenPath$Copy") dX11_isOfKind_56 rfl hO kw_367 nc_5_4 ?_
    refine ev_bret (X := M_X11_isOfKind) (pc := 59) dX11_isOfKind_59 rfl (by omega) ?_
    refine ⟨congrArg (fun z => some (vI z)) ?_, rfl, rfl⟩
    first
      | (rw [h1]; rfl)
      | (have hz : k = 0 := by omega
         rw [hz]; rfl)
  · refine ev_tableIn (X := M_X11_isOfKind) (pc := 1) (off := 59) (tgt := 60) dX11_isOfKind_1 (by omega) (by omega) (by omega) (by rw [h1]; rfl) (by decide) ?_
    refine ev_aload_n (X := M_X11_isOfKind) (pc := 60) dX11_isOfKind_60 rfl ?_
    refine ev_instS (X := M_X11_isOfKind) (pc := 61) (ci := 3) dX11_isOfKind_61 rfl hO kw_378 ?_
    refine ev_bret (X := M_X11_isOfKind) (pc := 64) dX11_isOfKind_64 rfl (by omega) ?_
    refine ⟨congrArg (fun z => some (vI z)) ?_, rfl, rfl⟩
    first
      | (rw [h1]; rfl)
      | (have hz : k = 0 := by omega
         rw [hz]; rfl)
  · refine ev_tableIn (X := M_X11_isOfKind) (pc := 1) (off := 64) (tgt := 65) dX11_isOfKind_1 (by omega) (by omega) (by omega) (by rw [h1]; rfl) (by decide) ?_
    refine ev_aload_n (X := M_X11_isOfKind) (pc := 65) dX11_isOfKind_65 rfl ?_
    refine ev_instN (X := M_X11_isOfKind) (pc := 66) (ci := 3) (nm := "GreenPath$Told") dX11_isOfKind_66 rfl hO kw_389 nc_5_6 ?_
    refine ev_bret (X := M_X11_isOfKind) (pc := 69) dX11_isOfKind_69 rfl (by omega) ?_
    refine ⟨congrArg (fun z => some (vI z)) ?_, rfl, rfl⟩
    first
      | (rw [h1]; rfl)
      | (have hz : k = 0 := by omega
         rw [hz]; rfl)
  · refine ev_tableOut (X := M_X11_isOfKind) (pc := 1) (tgt := 70) dX11_isOfKind_1 (by omega) (by omega) (by decide) ?_
    refine ev_iconst (X := M_X11_isOfKind) (pc := 70) dX11_isOfKind_70 ?_
    refine ev_bret (X := M_X11_isOfKind) (pc := 71) dX11_isOfKind_71 rfl (by omega) ?_
    refine ⟨congrArg (fun z => some (vI z)) ?_, rfl, rfl⟩
    first
      | (rw [h1]; rfl)
      | (have hz : k = 0 := by omega
         rw [hz]; rfl)
theorem c_isOf_6 {γ : Gh} {K : Sk} {V : Mm} {c : Nat} {k : Int} (hO : (K.1 c).1 = 10 + 10) (hk : 0 ≤ k ∧ k ≤ 6) : Call γ M_X11_isOfKind 0 0 0 [vR c, vI k] K V (Rt (some (vI (if k = 0 ∨ k = 6 ∨ k = abv 6 then 1 else 0))) K V) := by
  refine call_of (by decide +kernel) (by intro v hv; simp only [List.mem_cons, List.not_mem_nil, or_false] at hv; rcases hv with rfl | rfl <;> exact fun q => by cases q) (Nat.le_of_ble_eq_true rfl) ?_
  refine ev_lsE (ls' := [_, _]) rfl ?_
  refine ev_iload_n (X := M_X11_isOfKind) (pc := 0) dX11_isOfKind_0 rfl ?_
  rcases (show k = 1 ∨ k = 2 ∨ k = 3 ∨ k = 4 ∨ k = 5 ∨ k = 6 ∨ (k < 1 ∨ 6 < k) by omega) with h1 | h1 | h1 | h1 | h1 | h1 | h1
  · refine ev_tableIn (X := M_X11_isOfKind) (pc := 1) (off := 39) (tgt := 40) dX11_isOfKind_1 (by omega) (by omega) (by omega) (by rw [h1]; rfl) (by decide) ?_
    refine ev_aload_n (X := M_X11_isOfKind) (pc := 40) dX11_isOfKind_40 rfl ?_
    refine ev_instN (X := M_X11_isOfKind) (pc := 41) (ci := 10) (nm := "GreenPath$Third") dX11_isOfKind_41 rfl hO kw_342 nc_6_1 ?_
    refine ev_bret (X := M_X11_isOfKind) (pc := 44) dX11_isOfKind_44 rfl (by omega) ?_
    refine ⟨congrArg (fun z => some (vI z)) ?_, rfl, rfl⟩
    first
      | (rw [h1]; rfl)
      | (have hz : k = 0 := by omega
         rw [hz]; rfl)
  · refine ev_tableIn (X := M_X11_isOfKind) (pc := 1) (off := 44) (tgt := 45) dX11_isOfKind_1 (by omega) (by omega) (by omega) (by rw [h1]; rfl) (by decide) ?_
    refine ev_aload_n (X := M_X11_isOfKind) (pc := 45) dX11_isOfKind_45 rfl ?_
    refine ev_instN (X := M_X11_isOfKind) (pc := 46) (ci := 10) (nm := "GreenPath$Eat") dX11_isOfKind_46 rfl hO kw_344 nc_6_2 ?_
    refine ev_bret (X := M_X11_isOfKind) (pc := 49) dX11_isOfKind_49 rfl (by omega) ?_
    refine ⟨congrArg (fun z => some (vI z)) ?_, rfl, rfl⟩
    first
      | (rw [h1]; rfl)
      | (have hz : k = 0 := by omega
         rw [hz]; rfl)
  · refine ev_tableIn (X := M_X11_isOfKind) (pc := 1) (off := 49) (tgt := 50) dX11_isOfKind_1 (by omega) (by omega) (by omega) (by rw [h1]; rfl) (by decide) ?_
    refine ev_aload_n (X := M_X11_isOfKind) (pc := 50) dX11_isOfKind_50 rfl ?_
    refine ev_instY (X := M_X11_isOfKind) (pc := 51) (ci := 10) (nm := "GreenPath$Split") dX11_isOfKind_51 rfl hO kw_356 kn_1462 ?_
    refine ev_bret (X := M_X11_isOfKind) (pc := 54) dX11_isOfKind_54 rfl (by omega) ?_
    refine ⟨congrArg (fun z => some (vI z)) ?_, rfl, rfl⟩
    first
      | (rw [h1]; rfl)
      | (have hz : k = 0 := by omega
         rw [hz]; rfl)
  · refine ev_tableIn (X := M_X11_isOfKind) (pc := 1) (off := 54) (tgt := 55) dX11_isOfKind_1 (by omega) (by omega) (by omega) (by rw [h1]; rfl) (by decide) ?_
    refine ev_aload_n (X := M_X11_isOfKind) (pc := 55) dX11_isOfKind_55 rfl ?_
    refine ev_instN (X := M_X11_isOfKind) (pc := 56) (ci := 10) (nm := "GreenPath$Copy") dX11_isOfKind_56 rfl hO kw_367 nc_6_4 ?_
    refine ev_bret (X := M_X11_isOfKind) (pc := 59) dX11_isOfKind_59 rfl (by omega) ?_
    refine ⟨congrArg (fun z => some (vI z)) ?_, rfl, rfl⟩
    first
      | (rw [h1]; rfl)
      | (have hz : k = 0 := by omega
         rw [hz]; rfl)
  · refine ev_tableIn (X := M_X11_isOfKind) (pc := 1) (off := 59) (tgt := 60) dX11_isOfKind_1 (by omega) (by omega) (by omega) (by rw [h1]; rfl) (by decide) ?_
    refine ev_aload_n (X := M_X11_isOfKind) (pc := 60) dX11_isOfKind_60 rfl ?_
    refine ev_instN (X := M_X11_isOfKind) (pc := 61) (ci := 10) (nm := "GreenPath$Join") dX11_isOfKind_61 rfl hO kw_378 nc_6_5 ?_
    refine ev_bret (X := M_X11_isOfKind) (pc := 64) dX11_isOfKind_64 rfl (by omega) ?_
    refine ⟨congrArg (fun z => some (vI z)) ?_, rfl, rfl⟩
    first
      | (rw [h1]; rfl)
      | (have hz : k = 0 := by omega
         rw [hz]; rfl)
  · refine ev_tableIn (X := M_X11_isOfKind) (pc := 1) (off := 64) (tgt := 65) dX11_isOfKind_1 (by omega) (by omega) (by omega) (by rw [h1]; rfl) (by decide) ?_
    refine ev_aload_n (X := M_X11_isOfKind) (pc := 65) dX11_isOfKind_65 rfl ?_
    refine ev_instS (X := M_X11_isOfKind) (pc := 66) (ci := 10) dX11_isOfKind_66 rfl hO kw_389 ?_
    refine ev_bret (X := M_X11_isOfKind) (pc := 69) dX11_isOfKind_69 rfl (by omega) ?_
    refine ⟨congrArg (fun z => some (vI z)) ?_, rfl, rfl⟩
    first
      | (rw [h1]; rfl)
      | (have hz : k = 0 := by omega
         rw [hz]; rfl)
  · refine ev_tableOut (X := M_X11_isOfKind) (pc := 1) (tgt := 70) dX11_isOfKind_1 (by omega) (by omega) (by decide) ?_
    refine ev_iconst (X := M_X11_isOfKind) (pc := 70) dX11_isOfKind_70 ?_
    refine ev_bret (X := M_X11_isOfKind) (pc := 71) dX11_isOfKind_71 rfl (by omega) ?_
    refine ⟨congrArg (fun z => some (vI z)) ?_, rfl, rfl⟩
    first
      | (rw [h1]; rfl)
      | (have hz : k = 0 := by omega
         rw [hz]; rfl)
theorem c_isOfKind {γ : Gh} {K : Sk} {V : Mm} {c : Nat} {p kd m k : Int} (hA : LawA K V c p kd m) (hkd : 0 ≤ kd ∧ kd ≤ 6) (hk : 0 ≤ k ∧ k ≤ 6) : Call γ M_X11_isOfKind 0 0 0 [vR c, vI k] K V (Rt (some (vI (if k = 0 ∨ k = kd ∨ k = abv kd then 1 else 0))) K V) := by
  have hO := hA.1
  rcases (show kd = 0 ∨ kd = 1 ∨ kd = 2 ∨ kd = 3 ∨ kd = 4 ∨ kd = 5 ∨ kd = 6 by omega) with z | z | z | z | z | z | z <;> subst z
  · exact c_isOf_0 hO hk
  · exact c_isOf_1 hO hk
  · exact c_isOf_2 hO hk
  · exact c_isOf_3 hO hk
  · exact c_isOf_4 hO hk
  · exact c_isOf_5 hO hk
  · exact c_isOf_6 hO hk
theorem lcl_int (kd : Int) (k : Nat) (hk : k < 5) : fty (lcl kd) k = .int := by
  unfold lcl
  rcases (show k = 0 ∨ k = 1 ∨ k = 2 ∨ k = 3 ∨ k = 4 by omega) with z | z | z | z | z <;> subst z <;> (repeat' split) <;> rfl
theorem fls_X11_90 (kd : Int) : fldW "GreenPath" 90 (lcl kd) 0 := by
  unfold lcl
  repeat' split
  · exact fl_X11_90_9
  · exact fl_X11_90_1
  · exact fl_X11_90_7
  · exact fl_X11_90_0
  · exact fl_X11_90_3
  · exact fl_X11_90_10
  · exact fl_X11_90_4
theorem fls_X11_95 (kd : Int) : fldW "GreenPath" 95 (lcl kd) 2 := by
  unfold lcl
  repeat' split
  · exact fl_X11_95_9
  · exact fl_X11_95_1
  · exact fl_X11_95_7
  · exact fl_X11_95_0
  · exact fl_X11_95_3
  · exact fl_X11_95_10
  · exact fl_X11_95_4
theorem fls_X2_110 (kd : Int) : fldW "GreenPath$Island" 110 (lcl kd) 0 := by
  unfold lcl
  repeat' split
  · exact fl_X2_110_9
  · exact fl_X2_110_1
  · exact fl_X2_110_7
  · exact fl_X2_110_0
  · exact fl_X2_110_3
  · exact fl_X2_110_10
  · exact fl_X2_110_4
/-- what no act of the island touches: constants, bodies, sheets, the reference -/
def oF (V W : Mm) : Prop := ∀ c, c < 100 ∨ (143 ≤ c ∧ c ≤ 154) ∨ (156 ≤ c ∧ c < 178) → W c = V c
/-- old cells stay -/
def kF (K K' : Sk) : Prop := ∀ c, c < 100 → K'.1 c = K.1 c
theorem kF.rf {K : Sk} : kF K K := fun _ _ => rfl
theorem oF.rf {V : Mm} : oF V V := fun _ _ => rfl
theorem oF.tr {U V W : Mm} (h : oF U V) (g : oF V W) : oF U W := fun c z => by rw [g c z, h c z]
theorem oF_err {V : Mm} {k : Int} : oF V (err V k) := fun c z => wr_off (by omega)
theorem DL.d26 {D : Int → Int} (h : DL D) : D 26 ≤ 50 := h.2.1.2.1.2
theorem DL.d27 {D : Int → Int} (h : DL D) : D 27 ≤ 50 := h.2.2.2.1.1.2
theorem CI.e {K : Sk} {V : Mm} {D E : Int → Int} {im k : Int} {er : Int → Int} (h : CI K V D E im er) (hw : DL D) (hk : k ≠ 0) : CI K (err V k) D E im (erK er k) := by
  refine h.fr hw.d26 hw.d27 (fun c z => wr_off (fun q => z (by rw [q]; exact scr_err))) ?_ ?_
  · unfold err; rw [wr_off (by decide)]; exact h.1.ok
  · unfold err erK
    rw [wr_row, if_neg hk, h.1.2.2.2.2.2.2.2]
/-- behind a use of a text of now -/
theorem CI.t {K : Sk} {V W : Mm} {D E : Int → Int} {im u : Int} {er : Int → Int} (h : CI K V D E im er) (hw : DL D) (hu : u = 0 ∨ u = 1) (hW : fT K 104 u V W) : CI K W D E im er ∧ oF V W := by
  have hn : ∀ c, ¬ vrow K c → W c = V c := fun c z => hW c (fun q => z (by
    rcases hu with y | y <;> subst y
    · exact vr_t h.1.2.2.2.2.1.2.1 q
    · exact vr_t h.1.2.2.2.2.1.2.2 q))
  have h1 : W 119 = V 119 := hn 119 (fun z => by have := z.1; omega)
  have h2 : W 155 = V 155 := hn 155 (fun z => by have := z.1; omega)
  refine ⟨h.fr hw.d26 hw.d27 (fun c z => hn c (fun q => z (Or.inr (Or.inr (Or.inr q))))) (by rw [h1]; exact h.1.ok) (by rw [h2]; exact h.1.2.2.2.2.2.2.2), fun c z => hn c (fun q => by have := q.1; omega)⟩
theorem c_as {γ : Gh} {K : Sk} {V : Mm} {D E : Int → Int} {im : Int} {er : Int → Int} (h : CI K V D E im er) (hw : DL D) {p k : Int} (hp : R32 p) (hkr : R32 k) : Call γ M_X11_as 1 0 0 [vR 100, vI p, vI k] K V (Qx (some (vI (aR (asK D p k) (D (9 + p))))) K (fun W => oF V W ∧ CI K W D E im (erK er (asK D p k)))) := by
  refine call_of (by decide +kernel) (by intro v hv; simp only [List.mem_cons, List.not_mem_nil, or_false] at hv; rcases hv with rfl | rfl | rfl <;> exact fun q => by cases q) (Nat.le_of_ble_eq_true rfl) ?_
  refine ev_lsE (ls' := [_, _, _]) rfl ?_
  have hL := h.1.L
  have hLT := h.1.2.2.2.2.1
  refine ev_iload_n (X := M_X11_as) (pc := 0) dX11_as_0 rfl ?_
  refine ev_staticR (X := M_X11_as) (Y := M_X11_isPair) (pc := 1) dX11_as_1 mk_X11_isPair kw_336 kw_337 (c_isPair hp) rfl (by decide) rfl (Nat.le_of_ble_eq_true rfl) (Nat.zero_add _) (Nat.zero_add _) ?_
  refine ev_if_eq (X := M_X11_as) (pc := 4) (tgt := 17) dX11_as_4 (by decide) (by split <;> decide) (fun h4 => ?_) (fun h4 => ?_)
  · have hk : asK D p k = 1 := by unfold asK; rw [if_neg (fun z => by rw [if_pos z.1] at h4; exact absurd h4 (by decide))]
    refine ev_aload_n (X := M_X11_as) (pc := 17) dX11_as_17 rfl ?_
    refine ev_ldc (X := M_X11_as) (pc := 18) (v := -1000000001) dX11_as_18 kw_318 (by decide) ?_
    refine ev_virtR (X := M_X11_as) (Y := M_X11_error) (pc := 20) (ci := 11) dX11_as_20 mk_X11_error rfl kw_319 kw_321 kp_0 (lO_100 hL) (c_error hL (k := 1) (by decide) rfl) rfl (by decide) rfl (Nat.le_of_ble_eq_true rfl) (Nat.zero_add _) (Nat.zero_add _) ?_
    refine ev_iret (X := M_X11_as) (pc := 23) dX11_as_23 rfl ?_
    rw [hk]
    exact ⟨rfl, rfl, oF_err, h.e hw (by decide)⟩
  · have hs3 : 0 ≤ p ∧ p < 6 := Decidable.byContradiction fun z => h4 (by rw [if_neg z])
    refine ev_iload_n (X := M_X11_as) (pc := 7) dX11_as_7 rfl ?_
    refine ev_if_lt (X := M_X11_as) (pc := 8) (tgt := 17) dX11_as_8 (by decide) (by omega) (fun h8 => ?_) (fun h8 => ?_)
    · have hk : asK D p k = 1 := by unfold asK; rw [if_neg (by omega)]
      refine ev_aload_n (X := M_X11_as) (pc := 17) dX11_as_17 rfl ?_
      refine ev_ldc (X := M_X11_as) (pc := 18) (v := -1000000001) dX11_as_18 kw_318 (by decide) ?_
      refine ev_virtR (X := M_X11_as) (Y := M_X11_error) (pc := 20) (ci := 11) dX11_as_20 mk_X11_error rfl kw_319 kw_321 kp_0 (lO_100 hL) (c_error hL (k := 1) (by decide) rfl) rfl (by decide) rfl (Nat.le_of_ble_eq_true rfl) (Nat.zero_add _) (Nat.zero_add _) ?_
      refine ev_iret (X := M_X11_as) (pc := 23) dX11_as_23 rfl ?_
      rw [hk]
      exact ⟨rfl, rfl, oF_err, h.e hw (by decide)⟩
    · refine ev_iload_n (X := M_X11_as) (pc := 11) dX11_as_11 rfl ?_
      refine ev_bipush (X := M_X11_as) (pc := 12) dX11_as_12 (by decide) ?_
      refine ev_icmp_lt (X := M_X11_as) (pc := 14) (tgt := 24) dX11_as_14 (by decide) (by omega) (by omega) (fun h14 => ?_) (fun h14 => ?_)
      · have hk0 : asK D p k = if k = 0 ∨ k = D (3 + p) ∨ k = abv (D (3 + p)) then 0 else 5 := by unfold asK; rw [if_pos (by omega)]
        have hA := hLT.1 p hs3
        have hkd := (hw.2.1.1 p hs3.1 hs3.2).1
        obtain ⟨c, hc⟩ : ∃ c, K.2.1 103 p = c := ⟨_, rfl⟩
        have hA : LawA K V c p (D (3 + p)) (D (9 + p)) := by rw [← hc]; exact hA
        refine ev_aload_n (X := M_X11_as) (pc := 24) dX11_as_24 rfl ?_
        refine ev_getRe (X := M_X11_as) (pc := 25) dX11_as_25 fl_X11_20_11 (lO_100 hL) rfl (lR_100_0 hL) ?_
        refine ev_getRe (X := M_X11_as) (pc := 28) dX11_as_28 fl_X11_79_2 (lO_102 hL) rfl (lR_102_0 hL) ?_
        refine ev_iload_n (X := M_X11_as) (pc := 31) dX11_as_31 rfl ?_
        refine ev_aaloadE (X := M_X11_as) (pc := 32) dX11_as_32 (lS_103 hL) (by decide) (by decide) (by omega) (hc) ?_
        refine ev_iload_n (X := M_X11_as) (pc := 33) dX11_as_33 rfl ?_
        refine ev_staticR (X := M_X11_as) (Y := M_X11_isOfKind) (pc := 34) dX11_as_34 mk_X11_isOfKind kw_441 kw_442 (c_isOfKind hA hkd (by omega)) rfl (by decide) rfl (Nat.le_of_ble_eq_true rfl) (Nat.zero_add _) (Nat.zero_add _) ?_
        refine ev_if_eq (X := M_X11_as) (pc := 37) (tgt := 55) dX11_as_37 (by decide) (by split <;> decide) (fun h37 => ?_) (fun h37 => ?_)
        · have hk : asK D p k = 5 := by rw [hk0, if_neg (fun z => by rw [if_pos z] at h37; exact absurd h37 (by decide))]
          refine ev_aload_n (X := M_X11_as) (pc := 55) dX11_as_55 rfl ?_
          refine ev_ldc (X := M_X11_as) (pc := 56) (v := -1000000005) dX11_as_56 kw_444 (by decide) ?_
          refine ev_virtR (X := M_X11_as) (Y := M_X11_error) (pc := 58) (ci := 11) dX11_as_58 mk_X11_error rfl kw_319 kw_321 kp_0 (lO_100 hL) (c_error hL (k := 5) (by decide) rfl) rfl (by decide) rfl (Nat.le_of_ble_eq_true rfl) (Nat.zero_add _) (Nat.zero_add _) ?_
          refine ev_iret (X := M_X11_as) (pc := 61) dX11_as_61 rfl ?_
          rw [hk]
          first
            | exact ⟨rfl, rfl, oF.rf, h⟩
            | exact ⟨rfl, rfl, oF_err, h.e hw (by decide)⟩
        · have hk : asK D p k = 0 := by rw [hk0, if_pos (Decidable.byContradiction fun z => h37 (by rw [if_neg z]))]
          refine ev_aload_n (X := M_X11_as) (pc := 40) dX11_as_40 rfl ?_
          refine ev_getRe (X := M_X11_as) (pc := 41) dX11_as_41 fl_X11_20_11 (lO_100 hL) rfl (lR_100_0 hL) ?_
          refine ev_getRe (X := M_X11_as) (pc := 44) dX11_as_44 fl_X11_79_2 (lO_102 hL) rfl (lR_102_0 hL) ?_
          refine ev_iload_n (X := M_X11_as) (pc := 47) dX11_as_47 rfl ?_
          refine ev_aaloadE (X := M_X11_as) (pc := 48) dX11_as_48 (lS_103 hL) (by decide) (by decide) (by omega) (hc) ?_
          refine ev_getIe (X := M_X11_as) (pc := 49) (ki := 2) dX11_as_49 (fls_X11_95 _) hA.1 (Or.inl (lcl_int _ 2 (by decide))) rfl (hA.2.2.2.1) ?_
          refine ev_goto (X := M_X11_as) (pc := 52) (tgt := 61) dX11_as_52 (by decide) ?_
          refine ev_iret (X := M_X11_as) (pc := 61) dX11_as_61 rfl ?_
          rw [hk]
          first
            | exact ⟨rfl, rfl, oF.rf, h⟩
            | exact ⟨rfl, rfl, oF_err, h.e hw (by decide)⟩
      · have hk : asK D p k = 1 := by unfold asK; rw [if_neg (by omega)]
        refine ev_aload_n (X := M_X11_as) (pc := 17) dX11_as_17 rfl ?_
        refine ev_ldc (X := M_X11_as) (pc := 18) (v := -1000000001) dX11_as_18 kw_318 (by decide) ?_
        refine ev_virtR (X := M_X11_as) (Y := M_X11_error) (pc := 20) (ci := 11) dX11_as_20 mk_X11_error rfl kw_319 kw_321 kp_0 (lO_100 hL) (c_error hL (k := 1) (by decide) rfl) rfl (by decide) rfl (Nat.le_of_ble_eq_true rfl) (Nat.zero_add _) (Nat.zero_add _) ?_
        refine ev_iret (X := M_X11_as) (pc := 23) dX11_as_23 rfl ?_
        rw [hk]
        exact ⟨rfl, rfl, oF_err, h.e hw (by decide)⟩
theorem fen_sh : ∀ v d p : Fin 6, (v.val < 2 ∧ d.val < 2) → op_ishl ((v.val : Int) - (d.val : Int)) (p.val : Int) = ((v.val : Int) - (d.val : Int)) * 2 ^ p.val := by decide +kernel
theorem fen_F {D : Int → Int} (hF : wfF D) {p v : Int} (hp : 0 ≤ p ∧ p < 6) (hv : 0 ≤ v ∧ v ≤ 1) : fS D + op_ishl (v - D (15 + p)) p = fS (up D (15 + p) v) := by
  have hd : 0 ≤ D (15 + p) ∧ D (15 + p) ≤ 1 := by rcases hF p hp with z | z <;> omega
  have e := fen_sh ⟨v.toNat, by omega⟩ ⟨(D (15 + p)).toNat, by omega⟩ ⟨p.toNat, by omega⟩ ⟨by show v.toNat < 2; omega, by show (D (15 + p)).toNat < 2; omega⟩
  dsimp only at e
  rw [show ((v.toNat : Nat) : Int) = v by omega, show (((D (15 + p)).toNat : Nat) : Int) = D (15 + p) by omega, show ((p.toNat : Nat) : Int) = p by omega] at e
  rw [e]
  unfold fS
  rcases (show p = 0 ∨ p = 1 ∨ p = 2 ∨ p = 3 ∨ p = 4 ∨ p = 5 by omega) with z | z | z | z | z | z <;> subst z
  · rw [show (15 : Int) + 0 = 15 from rfl, up_self, up_ne (by decide), up_ne (by decide), up_ne (by decide), up_ne (by decide), up_ne (by decide), show (2 : Int) ^ (0 : Int).toNat = 1 from rfl]; omega
  · rw [show (15 : Int) + 1 = 16 from rfl, up_self, up_ne (by decide), up_ne (by decide), up_ne (by decide), up_ne (by decide), up_ne (by decide), show (2 : Int) ^ (1 : Int).toNat = 2 from rfl]; omega
  · rw [show (15 : Int) + 2 = 17 from rfl, up_self, up_ne (by decide), up_ne (by decide), up_ne (by decide), up_ne (by decide), up_ne (by decide), show (2 : Int) ^ (2 : Int).toNat = 4 from rfl]; omega
  · rw [show (15 : Int) + 3 = 18 from rfl, up_self, up_ne (by decide), up_ne (by decide), up_ne (by decide), up_ne (by decide), up_ne (by decide), show (2 : Int) ^ (3 : Int).toNat = 8 from rfl]; omega
  · rw [show (15 : Int) + 4 = 19 from rfl, up_self, up_ne (by decide), up_ne (by decide), up_ne (by decide), up_ne (by decide), up_ne (by decide), show (2 : Int) ^ (4 : Int).toNat = 16 from rfl]; omega
  · rw [show (15 : Int) + 5 = 20 from rfl, up_self, up_ne (by decide), up_ne (by decide), up_ne (by decide), up_ne (by decide), up_ne (by decide), show (2 : Int) ^ (5 : Int).toNat = 32 from rfl]; omega
/-- what rulesChanged leaves alone -/
theorem fR_oF {K : Sk} {V W : Mm} (h : fR K V W) : oF V W := fun c z => h c (by omega) (by omega) (by omega) (by omega) (by omega)
theorem c_fence {γ : Gh} {K : Sk} {V : Mm} {D E : Int → Int} {im : Int} {er : Int → Int} (h : CI K V D E im er) (hw : DL D) {p v : Int} (hp : R32 p) (hv : R32 v) : Call γ M_X11_fence 6 0 0 [vR 100, vI p, vI v] K V (Qx (some (vI (aR (fnK p v) (D (15 + p))))) K (fun W => oF V W ∧ CI K W (aD (fnK p v) D (up D (15 + p) v)) E im (erK er (fnK p v)))) := by
  refine call_of (by decide +kernel) (by intro v hv; simp only [List.mem_cons, List.not_mem_nil, or_false] at hv; rcases hv with rfl | rfl | rfl <;> exact fun q => by cases q) (Nat.le_of_ble_eq_true rfl) ?_
  refine ev_lsE (ls' := [_, _, _, _]) rfl ?_
  have hL := h.1.L
  obtain ⟨⟨q1, q2, ⟨b1, b2, b3, b4, b5, b6, b7, b8⟩, q4, q5, q6, q7, q8⟩, sc⟩ := id h
  have h5 : V 102 5 = fS D := sc.2.1
  refine ev_iload_n (X := M_X11_fence) (pc := 0) dX11_fence_0 rfl ?_
  refine ev_staticR (X := M_X11_fence) (Y := M_X11_isPair) (pc := 1) dX11_fence_1 mk_X11_isPair kw_336 kw_337 (c_isPair hp) rfl (by decide) rfl (Nat.le_of_ble_eq_true rfl) (Nat.zero_add _) (Nat.zero_add _) ?_
  refine ev_if_eq (X := M_X11_fence) (pc := 4) (tgt := 16) dX11_fence_4 (by decide) (by split <;> decide) (fun h4 => ?_) (fun h4 => ?_)
  · have hk : fnK p v = 1 := by unfold fnK; rw [if_neg (fun z => by rw [if_pos z.1] at h4; exact absurd h4 (by decide))]
    refine ev_aload_n (X := M_X11_fence) (pc := 16) dX11_fence_16 rfl ?_
    refine ev_ldc (X := M_X11_fence) (pc := 17) (v := -1000000001) dX11_fence_17 kw_318 (by decide) ?_
    refine ev_virtR (X := M_X11_fence) (Y := M_X11_error) (pc := 19) (ci := 11) dX11_fence_19 mk_X11_error rfl kw_319 kw_321 kp_0 (lO_100 hL) (c_error hL (k := 1) (by decide) rfl) rfl (by decide) rfl (Nat.le_of_ble_eq_true rfl) (Nat.zero_add _) (Nat.zero_add _) ?_
    refine ev_iret (X := M_X11_fence) (pc := 22) dX11_fence_22 rfl ?_
    rw [hk]
    exact ⟨rfl, rfl, oF_err, h.e hw (by decide)⟩
  · have hs3 : 0 ≤ p ∧ p < 6 := Decidable.byContradiction fun z => h4 (by rw [if_neg z])
    refine ev_iload_n (X := M_X11_fence) (pc := 7) dX11_fence_7 rfl ?_
    refine ev_if_lt (X := M_X11_fence) (pc := 8) (tgt := 16) dX11_fence_8 (by decide) (by omega) (fun h8 => ?_) (fun h8 => ?_)
    · have hk : fnK p v = 1 := by unfold fnK; rw [if_neg (by omega)]
      refine ev_aload_n (X := M_X11_fence) (pc := 16) dX11_fence_16 rfl ?_
      refine ev_ldc (X := M_X11_fence) (pc := 17) (v := -1000000001) dX11_fence_17 kw_318 (by decide) ?_
      refine ev_virtR (X := M_X11_fence) (Y := M_X11_error) (pc := 19) (ci := 11) dX11_fence_19 mk_X11_error rfl kw_319 kw_321 kp_0 (lO_100 hL) (c_error hL (k := 1) (by decide) rfl) rfl (by decide) rfl (Nat.le_of_ble_eq_true rfl) (Nat.zero_add _) (Nat.zero_add _) ?_
      refine ev_iret (X := M_X11_fence) (pc := 22) dX11_fence_22 rfl ?_
      rw [hk]
      exact ⟨rfl, rfl, oF_err, h.e hw (by decide)⟩
    · refine ev_iload_n (X := M_X11_fence) (pc := 11) dX11_fence_11 rfl ?_
      refine ev_iconst (X := M_X11_fence) (pc := 12) dX11_fence_12 ?_
      refine ev_icmp_le (X := M_X11_fence) (pc := 13) (tgt := 23) dX11_fence_13 (by decide) (by omega) (by omega) (fun h13 => ?_) (fun h13 => ?_)
      · have hk : fnK p v = 0 := by unfold fnK; rw [if_pos (by omega)]
        refine ev_aload_n (X := M_X11_fence) (pc := 23) dX11_fence_23 rfl ?_
        refine ev_getRe (X := M_X11_fence) (pc := 24) dX11_fence_24 fl_X11_20_11 (lO_100 hL) rfl (lR_100_0 hL) ?_
        refine ev_iload_n (X := M_X11_fence) (pc := 27) dX11_fence_27 rfl ?_
        refine ev_virtR (X := M_X11_fence) (Y := M_X2_fencedAt) (pc := 28) (ci := 2) dX11_fence_28 mk_X2_fencedAt rfl kw_421 kw_422 kw_423 (lO_102 hL) (c_fencedAt hL b5 hs3 h5) rfl (by decide) rfl (Nat.le_of_ble_eq_true rfl) (Nat.zero_add _) (Nat.zero_add _) ?_
        rw [fS_bit hw.2.2.1 hs3]
        refine ev_istore_nL (X := M_X11_fence) (pc := 31) (ls' := [_, _, _, _]) dX11_fence_31 (by decide) rfl ?_
        refine ev_aload_n (X := M_X11_fence) (pc := 32) dX11_fence_32 rfl ?_
        refine ev_getRe (X := M_X11_fence) (pc := 33) dX11_fence_33 fl_X11_20_11 (lO_100 hL) rfl (lR_100_0 hL) ?_
        refine ev_dup (X := M_X11_fence) (pc := 36) dX11_fence_36 (fun _ q => by cases q) ?_
        refine ev_getIe (X := M_X11_fence) (pc := 37) (ki := 5) dX11_fence_37 fl_X11_101_2 (lO_102 hL) (by decide) rfl (h5) ?_
        refine ev_iload_n (X := M_X11_fence) (pc := 40) dX11_fence_40 rfl ?_
        refine ev_iload_n (X := M_X11_fence) (pc := 41) dX11_fence_41 rfl ?_
        refine ev_isub (X := M_X11_fence) (pc := 42) dX11_fence_42 ?_
        refine ev_iload_n (X := M_X11_fence) (pc := 43) dX11_fence_43 rfl ?_
        refine ev_ishl (X := M_X11_fence) (pc := 44) dX11_fence_44 ?_
        refine ev_iadd (X := M_X11_fence) (pc := 45) dX11_fence_45 ?_
        refine ev_putI (X := M_X11_fence) (pc := 46) (ki := 5) dX11_fence_46 fl_X11_101_2 (by decide) (lO_102 hL) (fun _ h q => by cases h; cases q) (Or.inl rfl) rfl ?_
        rw [fen_F hw.2.2.1 hs3 (by omega)]
        obtain ⟨V1, hV1⟩ : ∃ V1, wr V 102 5 (fS (up D (15 + p) v)) = V1 := ⟨_, rfl⟩
        rw [hV1]
        have e0 : ∀ c, c ≠ 102 → V1 c = V c := fun c z => by rw [← hV1, wr_off z]
        have e1 : ∀ i, i ≠ 5 → V1 102 i = V 102 i := fun i z => by rw [← hV1, wr_ne (by omega)]
        have e5 : V1 102 5 = fS (up D (15 + p) v) := by rw [← hV1, wr_self]
        clear hV1
        have cg : ∀ i, i ≠ 15 + p → up D (15 + p) v i = D i := fun i z => up_ne z
        have hK' : Kds (up D (15 + p) v) := Kds_cg (fun i z => cg i (by omega)) hw.2.1
        have hF' : wfF (up D (15 + p) v) := fun q hq => by
          by_cases z : q = p
          · rw [z, up_self]; omega
          · rw [cg _ (by omega)]; exact hw.2.2.1 q hq
        have hLT : LTA K V1 102 (up D (15 + p) v) := (q5.w (fun c z _ => e0 c (by have ho : (112 ≤ c ∧ c ≤ 117) ∨ (137 ≤ c ∧ c ≤ 142) ∨ 178 ≤ c := z; omega))).cg (fun i z => cg i (by omega)) hw.d26 hw.d27
        have hSV1 : SV V1 := by unfold SV; rw [e0 1 (by decide), e0 2 (by decide), e0 3 (by decide)]; exact b2
        have hsc : SCA V1 102 (up D (15 + p) v) := by
          obtain ⟨s1, s2, s3, s4, s5, s6, s7, s8, s9⟩ := sc
          refine ⟨by rw [e1 4 (by decide)]; exact s1.trans (by unfold nowS; rw [cg 0 (by omega), cg 1 (by omega), cg 2 (by omega)]), e5, by rw [e1 6 (by decide), cg 21 (by omega)]; exact s3, by rw [e1 7 (by decide), cg 22 (by omega)]; exact s4, by rw [e1 8 (by decide), cg 23 (by omega)]; exact s5, by rw [e0 105 (by decide), cg 24 (by omega)]; exact s6, fun i i0 i1 => ?_, by rw [e0 107 (by decide), cg 25 (by omega)]; exact s8, fun i i0 i1 => ?_⟩
          · rw [cg 24 (by omega)] at i1; rw [e0 106 (by decide), cg _ (by omega)]; exact s7 i i0 i1
          · rw [cg 25 (by omega)] at i1; rw [e0 108 (by decide), cg _ (by omega)]; exact s9 i i0 i1
        refine ev_aload_n (X := M_X11_fence) (pc := 49) dX11_fence_49 rfl ?_
        refine ev_virtY (X := M_X11_fence) (Y := M_X11_rulesChanged) (pc := 50) (ci := 11) dX11_fence_50 mk_X11_rulesChanged rfl kw_409 kw_411 kp_1 (lO_100 hL) (c_rulesChanged hL hSV1 hK' hLT.2.1 hLT.1) rfl (by decide) rfl (Nat.le_of_ble_eq_true rfl) (Nat.zero_add _) (Nat.zero_add _) (fun W hW => ?_)
        refine ev_iload_n (X := M_X11_fence) (pc := 53) dX11_fence_53 rfl ?_
        refine ev_iret (X := M_X11_fence) (pc := 54) dX11_fence_54 rfl ?_
        rw [hk]
        have hrc := CL.rc (E := E) (im := im) (er := er) hL q1 (q2.mv (fun _ _ => rfl) (fun _ _ _ => rfl) (fun c hc => e0 c (by omega))) hSV1 (by unfold SV2; rw [e0 4 (by decide), e0 5 (by decide)]; exact b3) (fun q hq => by rw [e0 118 (by decide)]; exact b7 q hq) hK' hF' e5 hLT (by rw [e0 100 (by decide)]; exact q6) (fun z => ⟨(q7 z).1.w (fun c y _ => e0 c (by have ho : (112 ≤ c ∧ c ≤ 117) ∨ (137 ≤ c ∧ c ≤ 142) ∨ 178 ≤ c := y; omega)), (q7 z).2.mv (fun c y => e0 c (by omega))⟩) (by rw [e0 155 (by decide)]; exact q8) hW
        exact ⟨rfl, rfl, (fun c z => by rw [fR_oF hW.1 c z]; exact e0 c (by omega)), hrc.1, hrc.2 hsc⟩
      · have hk : fnK p v = 1 := by unfold fnK; rw [if_neg (by omega)]
        refine ev_aload_n (X := M_X11_fence) (pc := 16) dX11_fence_16 rfl ?_
        refine ev_ldc (X := M_X11_fence) (pc := 17) (v := -1000000001) dX11_fence_17 kw_318 (by decide) ?_
        refine ev_virtR (X := M_X11_fence) (Y := M_X11_error) (pc := 19) (ci := 11) dX11_fence_19 mk_X11_error rfl kw_319 kw_321 kp_0 (lO_100 hL) (c_error hL (k := 1) (by decide) rfl) rfl (by decide) rfl (Nat.le_of_ble_eq_true rfl) (Nat.zero_add _) (Nat.zero_add _) ?_
        refine ev_iret (X := M_X11_fence) (pc := 22) dX11_fence_22 rfl ?_
        rw [hk]
        exact ⟨rfl, rfl, oF_err, h.e hw (by decide)⟩
theorem c_ofPair {γ : Gh} {K : Sk} {V : Mm} {D E : Int → Int} {im : Int} {er : Int → Int} (h : CI K V D E im er) (hw : DL D) {p w : Int} (hp : R32 p) (hwr : R32 w) : Call γ M_X11_ofPair 4 0 0 [vR 100, vI p, vI w] K V (Qx (some (vI (aR (opK p w) (opX D p w)))) K (fun W => oF V W ∧ CI K W D E im (erK er (opK p w)))) := by
  refine call_of (by decide +kernel) (by intro v hv; simp only [List.mem_cons, List.not_mem_nil, or_false] at hv; rcases hv with rfl | rfl | rfl <;> exact fun q => by cases q) (Nat.le_of_ble_eq_true rfl) ?_
  refine ev_lsE (ls' := [_, _, _]) rfl ?_
  have hL := h.1.L
  obtain ⟨⟨q1, q2, ⟨b1, b2, b3, b4, b5, b6, b7, b8⟩, q4, q5, q6, q7, q8⟩, sc⟩ := id h
  have hK := hw.2.1
  have hs0 := nowS_st hw.1
  have hsl := isSt_lt hs0
  refine ev_iload_n (X := M_X11_ofPair) (pc := 0) dX11_ofPair_0 rfl ?_
  refine ev_staticR (X := M_X11_ofPair) (Y := M_X11_isPair) (pc := 1) dX11_ofPair_1 mk_X11_isPair kw_336 kw_337 (c_isPair hp) rfl (by decide) rfl (Nat.le_of_ble_eq_true rfl) (Nat.zero_add _) (Nat.zero_add _) ?_
  refine ev_if_eq (X := M_X11_ofPair) (pc := 4) (tgt := 17) dX11_ofPair_4 (by decide) (by split <;> decide) (fun h4 => ?_) (fun h4 => ?_)
  · have hk : opK p w = 1 := by unfold opK; rw [if_neg (fun z => by rw [if_pos z.1] at h4; exact absurd h4 (by decide))]
    refine ev_aload_n (X := M_X11_ofPair) (pc := 17) dX11_ofPair_17 rfl ?_
    refine ev_ldc (X := M_X11_ofPair) (pc := 18) (v := -1000000001) dX11_ofPair_18 kw_318 (by decide) ?_
    refine ev_virtR (X := M_X11_ofPair) (Y := M_X11_error) (pc := 20) (ci := 11) dX11_ofPair_20 mk_X11_error rfl kw_319 kw_321 kp_0 (lO_100 hL) (c_error hL (k := 1) (by decide) rfl) rfl (by decide) rfl (Nat.le_of_ble_eq_true rfl) (Nat.zero_add _) (Nat.zero_add _) ?_
    refine ev_iret (X := M_X11_ofPair) (pc := 23) dX11_ofPair_23 rfl ?_
    rw [hk]
    exact ⟨rfl, rfl, oF_err, h.e hw (by decide)⟩
  · have hs3 : 0 ≤ p ∧ p < 6 := Decidable.byContradiction fun z => h4 (by rw [if_neg z])
    refine ev_iload_n (X := M_X11_ofPair) (pc := 7) dX11_ofPair_7 rfl ?_
    refine ev_if_lt (X := M_X11_ofPair) (pc := 8) (tgt := 17) dX11_ofPair_8 (by decide) (by omega) (fun h8 => ?_) (fun h8 => ?_)
    · have hk : opK p w = 1 := by unfold opK; rw [if_neg (by omega)]
      refine ev_aload_n (X := M_X11_ofPair) (pc := 17) dX11_ofPair_17 rfl ?_
      refine ev_ldc (X := M_X11_ofPair) (pc := 18) (v := -1000000001) dX11_ofPair_18 kw_318 (by decide) ?_
      refine ev_virtR (X := M_X11_ofPair) (Y := M_X11_error) (pc := 20) (ci := 11) dX11_ofPair_20 mk_X11_error rfl kw_319 kw_321 kp_0 (lO_100 hL) (c_error hL (k := 1) (by decide) rfl) rfl (by decide) rfl (Nat.le_of_ble_eq_true rfl) (Nat.zero_add _) (Nat.zero_add _) ?_
      refine ev_iret (X := M_X11_ofPair) (pc := 23) dX11_ofPair_23 rfl ?_
      rw [hk]
      exact ⟨rfl, rfl, oF_err, h.e hw (by decide)⟩
    · refine ev_iload_n (X := M_X11_ofPair) (pc := 11) dX11_ofPair_11 rfl ?_
      refine ev_bipush (X := M_X11_ofPair) (pc := 12) dX11_ofPair_12 (by decide) ?_
      refine ev_icmp_le (X := M_X11_ofPair) (pc := 14) (tgt := 24) dX11_ofPair_14 (by decide) (by omega) (by omega) (fun h14 => ?_) (fun h14 => ?_)
      · have hk : opK p w = 0 := by unfold opK; rw [if_pos (by omega)]
        have hA := q5.1 p hs3
        obtain ⟨c, hc⟩ : ∃ c, K.2.1 103 p = c := ⟨_, rfl⟩
        have hA : LawA K V c p (D (3 + p)) (D (9 + p)) := by rw [← hc]; exact hA
        have hb6 := b6.2 p hs3
        refine ev_iload_n (X := M_X11_ofPair) (pc := 24) dX11_ofPair_24 rfl ?_
        rcases (show w = 0 ∨ w = 1 ∨ w = 2 ∨ w = 3 ∨ w = 4 ∨ (w < 0 ∨ 4 < w) by omega) with h25 | h25 | h25 | h25 | h25 | h25
        · refine ev_tableIn (X := M_X11_ofPair) (pc := 25) (off := 35) (tgt := 60) dX11_ofPair_25 (by omega) (by omega) (by omega) (by rw [h25]; rfl) (by decide) ?_
          refine ev_aload_n (X := M_X11_ofPair) (pc := 60) dX11_ofPair_60 rfl ?_
          refine ev_getRe (X := M_X11_ofPair) (pc := 61) dX11_ofPair_61 fl_X11_20_11 (lO_100 hL) rfl (lR_100_0 hL) ?_
          refine ev_getRe (X := M_X11_ofPair) (pc := 64) dX11_ofPair_64 fl_X11_79_2 (lO_102 hL) rfl (lR_102_0 hL) ?_
          refine ev_iload_n (X := M_X11_ofPair) (pc := 67) dX11_ofPair_67 rfl ?_
          refine ev_aaloadE (X := M_X11_ofPair) (pc := 68) dX11_ofPair_68 (lS_103 hL) (by decide) (by decide) (by omega) (hc) ?_
          refine ev_getIe (X := M_X11_ofPair) (pc := 69) (ki := 0) dX11_ofPair_69 (fls_X11_90 _) hA.1 (Or.inl (lcl_int _ 0 (by decide))) rfl (hA.2.1) ?_
          refine ev_iret (X := M_X11_ofPair) (pc := 72) dX11_ofPair_72 rfl ?_
          rw [hk]
          refine ⟨congrArg (fun z => some (vI z)) ?_, rfl, oF.rf, h⟩
          show _ = opX D p w
          first
            | (rw [h25]; exact hx.symm)
            | (rw [h25]; rfl)
            | (rw [h25]; show many (comF D) p - 2 + 2 = many (comF D) p; omega)
        · refine ev_tableIn (X := M_X11_ofPair) (pc := 25) (off := 48) (tgt := 73) dX11_ofPair_25 (by omega) (by omega) (by omega) (by rw [h25]; rfl) (by decide) ?_
          refine ev_aload_n (X := M_X11_ofPair) (pc := 73) dX11_ofPair_73 rfl ?_
          refine ev_getRe (X := M_X11_ofPair) (pc := 74) dX11_ofPair_74 fl_X11_20_11 (lO_100 hL) rfl (lR_100_0 hL) ?_
          refine ev_getRe (X := M_X11_ofPair) (pc := 77) dX11_ofPair_77 fl_X11_79_2 (lO_102 hL) rfl (lR_102_0 hL) ?_
          refine ev_iload_n (X := M_X11_ofPair) (pc := 80) dX11_ofPair_80 rfl ?_
          refine ev_aaloadE (X := M_X11_ofPair) (pc := 81) dX11_ofPair_81 (lS_103 hL) (by decide) (by decide) (by omega) (hc) ?_
          refine ev_getIe (X := M_X11_ofPair) (pc := 82) (ki := 2) dX11_ofPair_82 (fls_X11_95 _) hA.1 (Or.inl (lcl_int _ 2 (by decide))) rfl (hA.2.2.2.1) ?_
          refine ev_iret (X := M_X11_ofPair) (pc := 85) dX11_ofPair_85 rfl ?_
          rw [hk]
          refine ⟨congrArg (fun z => some (vI z)) ?_, rfl, oF.rf, h⟩
          show _ = opX D p w
          first
            | (rw [h25]; exact hx.symm)
            | (rw [h25]; rfl)
            | (rw [h25]; show many (comF D) p - 2 + 2 = many (comF D) p; omega)
        · refine ev_tableIn (X := M_X11_ofPair) (pc := 25) (off := 61) (tgt := 86) dX11_ofPair_25 (by omega) (by omega) (by omega) (by rw [h25]; rfl) (by decide) ?_
          refine ev_aload_n (X := M_X11_ofPair) (pc := 86) dX11_ofPair_86 rfl ?_
          refine ev_getRe (X := M_X11_ofPair) (pc := 87) dX11_ofPair_87 fl_X11_20_11 (lO_100 hL) rfl (lR_100_0 hL) ?_
          refine ev_iload_n (X := M_X11_ofPair) (pc := 90) dX11_ofPair_90 rfl ?_
          refine ev_virtR (X := M_X11_ofPair) (Y := M_X2_fencedAt) (pc := 91) (ci := 2) dX11_ofPair_91 mk_X2_fencedAt rfl kw_421 kw_422 kw_423 (lO_102 hL) (c_fencedAt hL b5 hs3 sc.2.1) rfl (by decide) rfl (Nat.le_of_ble_eq_true rfl) (Nat.zero_add _) (Nat.zero_add _) ?_
          rw [fS_bit hw.2.2.1 hs3]
          refine ev_iret (X := M_X11_ofPair) (pc := 94) dX11_ofPair_94 rfl ?_
          rw [hk]
          refine ⟨congrArg (fun z => some (vI z)) ?_, rfl, oF.rf, h⟩
          show _ = opX D p w
          first
            | (rw [h25]; exact hx.symm)
            | (rw [h25]; rfl)
            | (rw [h25]; show many (comF D) p - 2 + 2 = many (comF D) p; omega)
        · refine ev_tableIn (X := M_X11_ofPair) (pc := 25) (off := 70) (tgt := 95) dX11_ofPair_25 (by omega) (by omega) (by omega) (by rw [h25]; rfl) (by decide) ?_
          refine ev_aload_n (X := M_X11_ofPair) (pc := 95) dX11_ofPair_95 rfl ?_
          refine ev_getRe (X := M_X11_ofPair) (pc := 96) dX11_ofPair_96 fl_X11_20_11 (lO_100 hL) rfl (lR_100_0 hL) ?_
          refine ev_aload_n (X := M_X11_ofPair) (pc := 99) dX11_ofPair_99 rfl ?_
          refine ev_getRe (X := M_X11_ofPair) (pc := 100) dX11_ofPair_100 fl_X11_20_11 (lO_100 hL) rfl (lR_100_0 hL) ?_
          refine ev_getIe (X := M_X11_ofPair) (pc := 103) (ki := 4) dX11_ofPair_103 fl_X11_61_2 (lO_102 hL) (by decide) rfl (sc.1) ?_
          refine ev_iload_n (X := M_X11_ofPair) (pc := 106) dX11_ofPair_106 rfl ?_
          refine ev_virtR (X := M_X11_ofPair) (Y := M_X2_next) (pc := 107) (ci := 2) dX11_ofPair_107 mk_X2_next rfl kw_429 kw_430 kw_431 (lO_102 hL) (c_next hL b2 b4 b5 hs3 b6 (by omega)) rfl (by decide) rfl (Nat.le_of_ble_eq_true rfl) (Nat.zero_add _) (Nat.zero_add _) ?_
          have hnr := nx_r (F := fS D) b4 ⟨hsl.1, hsl.2⟩ hs3
          refine ev_iconst (X := M_X11_ofPair) (pc := 110) dX11_ofPair_110 ?_
          refine ev_icmp_ne (X := M_X11_ofPair) (pc := 111) (tgt := 118) dX11_ofPair_111 (by decide) (by omega) (by decide) (fun h111 => ?_) (fun h111 => ?_)
          · have hx : opX D p 3 = 1 := by
              show (if nx (comF D) (fS D) (nowS D) p = -1 then (0 : Int) else 1) = 1
              rw [if_neg h111]
            refine ev_iconst (X := M_X11_ofPair) (pc := 118) dX11_ofPair_118 ?_
            refine ev_iret (X := M_X11_ofPair) (pc := 119) dX11_ofPair_119 rfl ?_
            rw [hk]
            refine ⟨congrArg (fun z => some (vI z)) ?_, rfl, oF.rf, h⟩
            show _ = opX D p w
            first
              | (rw [h25]; exact hx.symm)
              | (rw [h25]; rfl)
              | (rw [h25]; show many (comF D) p - 2 + 2 = many (comF D) p; omega)
          · have hx : opX D p 3 = 0 := by
              show (if nx (comF D) (fS D) (nowS D) p = -1 then (0 : Int) else 1) = 0
              rw [if_pos (by omega)]
            refine ev_iconst (X := M_X11_ofPair) (pc := 114) dX11_ofPair_114 ?_
            refine ev_goto (X := M_X11_ofPair) (pc := 115) (tgt := 119) dX11_ofPair_115 (by decide) ?_
            refine ev_iret (X := M_X11_ofPair) (pc := 119) dX11_ofPair_119 rfl ?_
            rw [hk]
            refine ⟨congrArg (fun z => some (vI z)) ?_, rfl, oF.rf, h⟩
            show _ = opX D p w
            first
              | (rw [h25]; exact hx.symm)
              | (rw [h25]; rfl)
              | (rw [h25]; show many (comF D) p - 2 + 2 = many (comF D) p; omega)
        · refine ev_tableIn (X := M_X11_ofPair) (pc := 25) (off := 95) (tgt := 120) dX11_ofPair_25 (by omega) (by omega) (by omega) (by rw [h25]; rfl) (by decide) ?_
          refine ev_aload_n (X := M_X11_ofPair) (pc := 120) dX11_ofPair_120 rfl ?_
          refine ev_getRe (X := M_X11_ofPair) (pc := 121) dX11_ofPair_121 fl_X11_20_11 (lO_100 hL) rfl (lR_100_0 hL) ?_
          refine ev_getRe (X := M_X11_ofPair) (pc := 124) dX11_ofPair_124 fl_X11_107_2 (lO_102 hL) rfl (lR_102_10 hL) ?_
          refine ev_iload_n (X := M_X11_ofPair) (pc := 127) dX11_ofPair_127 rfl ?_
          refine ev_ialoadE (X := M_X11_ofPair) (pc := 128) dX11_ofPair_128 (lS_110 hL) (by omega) (hb6.1) ?_
          refine ev_iconst (X := M_X11_ofPair) (pc := 129) dX11_ofPair_129 ?_
          refine ev_iadd (X := M_X11_ofPair) (pc := 130) dX11_ofPair_130 ?_
          refine ev_iret (X := M_X11_ofPair) (pc := 131) dX11_ofPair_131 rfl ?_
          rw [hk]
          refine ⟨congrArg (fun z => some (vI z)) ?_, rfl, oF.rf, h⟩
          show _ = opX D p w
          first
            | (rw [h25]; exact hx.symm)
            | (rw [h25]; rfl)
            | (rw [h25]; show many (comF D) p - 2 + 2 = many (comF D) p; omega)
        · refine ev_tableOut (X := M_X11_ofPair) (pc := 25) (tgt := 132) dX11_ofPair_25 (by omega) (by omega) (by decide) ?_
          have hw3 : 0 ≤ w - 5 ∧ w - 5 < 3 := by omega
          refine ev_aload_n (X := M_X11_ofPair) (pc := 132) dX11_ofPair_132 rfl ?_
          refine ev_getRe (X := M_X11_ofPair) (pc := 133) dX11_ofPair_133 fl_X11_20_11 (lO_100 hL) rfl (lR_100_0 hL) ?_
          refine ev_getRe (X := M_X11_ofPair) (pc := 136) dX11_ofPair_136 fl_X11_79_2 (lO_102 hL) rfl (lR_102_0 hL) ?_
          refine ev_iload_n (X := M_X11_ofPair) (pc := 139) dX11_ofPair_139 rfl ?_
          refine ev_aaloadE (X := M_X11_ofPair) (pc := 140) dX11_ofPair_140 (lS_103 hL) (by decide) (by decide) (by omega) (hc) ?_
          refine ev_iload_n (X := M_X11_ofPair) (pc := 141) dX11_ofPair_141 rfl ?_
          refine ev_iconst (X := M_X11_ofPair) (pc := 142) dX11_ofPair_142 ?_
          refine ev_isub (X := M_X11_ofPair) (pc := 143) dX11_ofPair_143 ?_
          refine ev_aload_n (X := M_X11_ofPair) (pc := 144) dX11_ofPair_144 rfl ?_
          refine ev_getRe (X := M_X11_ofPair) (pc := 145) dX11_ofPair_145 fl_X11_20_11 (lO_100 hL) rfl (lR_100_0 hL) ?_
          refine ev_lawComes (X := M_X11_ofPair) (pc := 148) dX11_ofPair_148 kw_436 hL hK q5.2.1 hs3 hw3 hA (by decide) (Nat.le_of_ble_eq_true rfl) (fun W1 hW1 => ?_)
          refine ev_iret (X := M_X11_ofPair) (pc := 151) dX11_ofPair_151 rfl ?_
          rw [hk]
          have ht := h.t hw (Or.inl rfl) hW1
          refine ⟨congrArg (fun z => some (vI z)) ?_, rfl, ht.2, ht.1⟩
          show _ = opX D p w
          unfold opX
          rw [if_neg (by omega), if_neg (by omega), if_neg (by omega), if_neg (by omega), if_neg (by omega)]
      · have hk : opK p w = 1 := by unfold opK; rw [if_neg (by omega)]
        refine ev_aload_n (X := M_X11_ofPair) (pc := 17) dX11_ofPair_17 rfl ?_
        refine ev_ldc (X := M_X11_ofPair) (pc := 18) (v := -1000000001) dX11_ofPair_18 kw_318 (by decide) ?_
        refine ev_virtR (X := M_X11_ofPair) (Y := M_X11_error) (pc := 20) (ci := 11) dX11_ofPair_20 mk_X11_error rfl kw_319 kw_321 kp_0 (lO_100 hL) (c_error hL (k := 1) (by decide) rfl) rfl (by decide) rfl (Nat.le_of_ble_eq_true rfl) (Nat.zero_add _) (Nat.zero_add _) ?_
        refine ev_iret (X := M_X11_ofPair) (pc := 23) dX11_ofPair_23 rfl ?_
        rw [hk]
        exact ⟨rfl, rfl, oF_err, h.e hw (by decide)⟩
