/-! ===== the class reads a text ===== -/
def byF (k : Nat) (i : Int) : Int := ((match k with
  | 0 => [97, 98, 109]
  | 1 => [97, 98, 107, 116]
  | 2 => [124]
  | 3 => [38]
  | 4 => [60, 61, 62]
  | 5 => [43, 45]
  | _ => [42, 47, 37] : List Int)).getD i.toNat 0
def byN (k : Nat) : Nat := match k with
  | 0 => 3
  | 1 => 4
  | 2 => 1
  | 3 => 1
  | 4 => 3
  | 5 => 2
  | _ => 3
/-- the Strings of the class -/
def SS (K : Sk) (V : Mm) : Prop := ∀ k : Nat, k < 7 → StrAt K V (10 + k) (20 + k) (byN k) ∧ V (20 + k) = byF k
theorem ix_names {u s : Int} (hu : u = 0 ∨ u = 1) : ixF (byF u.toNat) (byN u.toNat) s = nmI u s := by
  rcases hu with rfl | rfl
  · show (if (97 : Int) = s then (0 : Int) else if (98 : Int) = s then 0 + 1 else if (109 : Int) = s then 0 + 1 + 1 else -1) = _
    unfold nmI
    repeat' split
    all_goals omega
  · show (if (97 : Int) = s then (0 : Int) else if (98 : Int) = s then 0 + 1 else if (107 : Int) = s then 0 + 1 + 1 else if (116 : Int) = s then 0 + 1 + 1 + 1 else -1) = _
    unfold nmI
    repeat' split
    all_goals omega
theorem ix_ops {L : Nat} {s : Int} (hL : L ≤ 4) : (0 < s ∧ 0 ≤ ixF (byF (2 + L)) (byN (2 + L)) s) ↔ s ∈ opsJ (4 - L) := by
  rcases (show L = 0 ∨ L = 1 ∨ L = 2 ∨ L = 3 ∨ L = 4 by omega) with rfl | rfl | rfl | rfl | rfl
  · show (0 < s ∧ 0 ≤ (if (124 : Int) = s then (0 : Int) else -1)) ↔ s ∈ ([124] : List Int)
    simp only [List.mem_cons, List.not_mem_nil, or_false]
    constructor
    · intro h; split at h <;> omega
    · intro h; rw [if_pos (by omega)]; omega
  · show (0 < s ∧ 0 ≤ (if (38 : Int) = s then (0 : Int) else -1)) ↔ s ∈ ([38] : List Int)
    simp only [List.mem_cons, List.not_mem_nil, or_false]
    constructor
    · intro h; split at h <;> omega
    · intro h; rw [if_pos (by omega)]; omega
  · show (0 < s ∧ 0 ≤ (if (60 : Int) = s then (0 : Int) else if (61 : Int) = s then 0 + 1 else if (62 : Int) = s then 0 + 1 + 1 else -1)) ↔ s ∈ ([60, 61, 62] : List Int)
    simp only [List.mem_cons, List.not_mem_nil, or_false]
    constructor
    · intro h; repeat' split at h
      all_goals omega
    · intro h; refine ⟨by omega, ?_⟩
      repeat' split
      all_goals omega
  · show (0 < s ∧ 0 ≤ (if (43 : Int) = s then (0 : Int) else if (45 : Int) = s then 0 + 1 else -1)) ↔ s ∈ ([43, 45] : List Int)
    simp only [List.mem_cons, List.not_mem_nil, or_false]
    constructor
    · intro h; repeat' split at h
      all_goals omega
    · intro h; refine ⟨by omega, ?_⟩
      repeat' split
      all_goals omega
  · show (0 < s ∧ 0 ≤ (if (42 : Int) = s then (0 : Int) else if (47 : Int) = s then 0 + 1 else if (37 : Int) = s then 0 + 1 + 1 else -1)) ↔ s ∈ ([42, 47, 37] : List Int)
    simp only [List.mem_cons, List.not_mem_nil, or_false]
    constructor
    · intro h; repeat' split at h
      all_goals omega
    · intro h; refine ⟨by omega, ?_⟩
      repeat' split
      all_goals omega
theorem c_signsOf {γ : Gh} {K : Sk} {V : Mm} {L : Nat} (hL : L ≤ 4) : Call γ M_X8_signsOf 0 0 0 [vI L] K V (Rt (some (vR (12 + L))) K V) := by
  refine call_of (by decide +kernel) (by intro v hv; simp only [List.mem_cons, List.not_mem_nil, or_false] at hv; rcases hv with rfl <;> exact fun q => by cases q) (Nat.le_of_ble_eq_true rfl) ?_
  refine ev_lsE (ls' := [_]) rfl ?_
  refine ev_iload_n (X := M_X8_signsOf) (pc := 0) dX8_signsOf_0 rfl ?_
  rcases (show (L : Int) = 0 ∨ (L : Int) = 1 ∨ (L : Int) = 2 ∨ (L : Int) = 3 ∨ ((L : Int) < 0 ∨ 3 < (L : Int)) by omega) with h1 | h1 | h1 | h1 | h1
  · refine ev_tableIn (X := M_X8_signsOf) (pc := 1) (off := 31) (tgt := 32) dX8_signsOf_1 (by omega) (by omega) (by omega) (by rw [h1]; rfl) (by decide) ?_
    refine ev_ldcS (X := M_X8_signsOf) (pc := 32) (q := ("GreenPath$Text", 51, "|", 12)) dX8_signsOf_32 (List.mem_of_getElem? (i := 2) rfl) rfl rfl (by decide) ?_
    refine ev_aret (X := M_X8_signsOf) (pc := 34) dX8_signsOf_34 rfl (Or.inl ⟨_, rfl⟩) ?_
    exact ⟨by rw [show L = 0 by omega], rfl, rfl⟩
  · refine ev_tableIn (X := M_X8_signsOf) (pc := 1) (off := 34) (tgt := 35) dX8_signsOf_1 (by omega) (by omega) (by omega) (by rw [h1]; rfl) (by decide) ?_
    refine ev_ldcS (X := M_X8_signsOf) (pc := 35) (q := ("GreenPath$Text", 53, "&", 13)) dX8_signsOf_35 (List.mem_of_getElem? (i := 3) rfl) rfl rfl (by decide) ?_
    refine ev_aret (X := M_X8_signsOf) (pc := 37) dX8_signsOf_37 rfl (Or.inl ⟨_, rfl⟩) ?_
    exact ⟨by rw [show L = 1 by omega], rfl, rfl⟩
  · refine ev_tableIn (X := M_X8_signsOf) (pc := 1) (off := 37) (tgt := 38) dX8_signsOf_1 (by omega) (by omega) (by omega) (by rw [h1]; rfl) (by decide) ?_
    refine ev_ldcS (X := M_X8_signsOf) (pc := 38) (q := ("GreenPath$Text", 55, "<=>", 14)) dX8_signsOf_38 (List.mem_of_getElem? (i := 4) rfl) rfl rfl (by decide) ?_
    refine ev_aret (X := M_X8_signsOf) (pc := 40) dX8_signsOf_40 rfl (Or.inl ⟨_, rfl⟩) ?_
    exact ⟨by rw [show L = 2 by omega], rfl, rfl⟩
  · refine ev_tableIn (X := M_X8_signsOf) (pc := 1) (off := 40) (tgt := 41) dX8_signsOf_1 (by omega) (by omega) (by omega) (by rw [h1]; rfl) (by decide) ?_
    refine ev_ldcS (X := M_X8_signsOf) (pc := 41) (q := ("GreenPath$Text", 57, "+-", 15)) dX8_signsOf_41 (List.mem_of_getElem? (i := 5) rfl) rfl rfl (by decide) ?_
    refine ev_aret (X := M_X8_signsOf) (pc := 43) dX8_signsOf_43 rfl (Or.inl ⟨_, rfl⟩) ?_
    exact ⟨by rw [show L = 3 by omega], rfl, rfl⟩
  · refine ev_tableOut (X := M_X8_signsOf) (pc := 1) (tgt := 44) dX8_signsOf_1 (by omega) (by omega) (by decide) ?_
    refine ev_ldcS (X := M_X8_signsOf) (pc := 44) (q := ("GreenPath$Text", 59, "*/%", 16)) dX8_signsOf_44 (List.mem_of_getElem? (i := 6) rfl) rfl rfl (by decide) ?_
    refine ev_aret (X := M_X8_signsOf) (pc := 46) dX8_signsOf_46 rfl (Or.inl ⟨_, rfl⟩) ?_
    exact ⟨by rw [show L = 4 by omega], rfl, rfl⟩
