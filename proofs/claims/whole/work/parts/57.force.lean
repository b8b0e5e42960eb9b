/-! ===== who can force an end ===== -/
abbrev enD (s k : Int) : Prop := 0 < bei s ∧ cnt s k = bei s
theorem enD_iff {s k : Int} (hs : 0 ≤ s ∧ s < 2197) (hk : 0 ≤ k ∧ k < 3) : (0 < s ∧ cnt s k * wgtF k = s) ↔ enD s k := by
  have h0 := cnt_r s 0
  have h1 := cnt_r s 1
  have h2 := cnt_r s 2
  have hb := bei_eq hs
  have he := st_eq hs
  have w0 : wgtF 0 = 169 := rfl
  have w1 : wgtF 1 = 13 := rfl
  have w2 : wgtF 2 = 1 := rfl
  unfold enD
  rcases (show k = 0 ∨ k = 1 ∨ k = 2 by omega) with z | z | z <;> subst z
  · rw [w0]; omega
  · rw [w1]; omega
  · rw [w2]; omega
theorem c_isEnd {γ : Gh} {K : Sk} {V : Mm} (hL : Lay K) (hV : SV V) {s k : Int} (hs : 0 ≤ s ∧ s < 2197) (hk : 0 ≤ k ∧ k < 3) : Call γ M_X11_isEnd 1 0 0 [vI s, vI k] K V (Rt (some (vI (if enD s k then 1 else 0))) K V) := by
  refine call_of (by decide +kernel) (by intro v hv; simp only [List.mem_cons, List.not_mem_nil, or_false] at hv; rcases hv with rfl | rfl <;> exact fun q => by cases q) (Nat.le_of_ble_eq_true rfl) ?_
  refine ev_lsE (ls' := [_, _]) rfl ?_
  have hi := enD_iff hs hk
  have hc := cnt_r s k
  have hm : 0 ≤ cnt s k * wgtF k ∧ cnt s k * wgtF k < 2147483648 := by
    have w0 : wgtF 0 = 169 := rfl
    have w1 : wgtF 1 = 13 := rfl
    have w2 : wgtF 2 = 1 := rfl
    rcases (show k = 0 ∨ k = 1 ∨ k = 2 by omega) with z | z | z <;> subst z
    · rw [w0]; omega
    · rw [w1]; omega
    · rw [w2]; omega
  refine ev_iload_n (X := M_X11_isEnd) (pc := 0) dX11_isEnd_0 rfl ?_
  refine ev_if_le (X := M_X11_isEnd) (pc := 1) (tgt := 23) dX11_isEnd_1 (by decide) (by omega) (fun h1 => ?_) (fun h1 => ?_)
  · have hno : ¬ enD s k := fun z => by have := hi.mpr z; omega
    refine ev_iconst (X := M_X11_isEnd) (pc := 23) dX11_isEnd_23 ?_
    refine ev_bret (X := M_X11_isEnd) (pc := 24) dX11_isEnd_24 rfl (by decide) ?_
    first
      | exact ⟨by rw [if_neg hno], rfl, rfl⟩
      | exact ⟨by rw [if_pos hye], rfl, rfl⟩
  · refine ev_iload_n (X := M_X11_isEnd) (pc := 4) dX11_isEnd_4 rfl ?_
    refine ev_iload_n (X := M_X11_isEnd) (pc := 5) dX11_isEnd_5 rfl ?_
    refine ev_staticR (X := M_X11_isEnd) (Y := M_X11_countOf) (pc := 6) dX11_isEnd_6 mk_X11_countOf kw_324 kw_325 (c_countOf hL hV (by omega) hk) rfl (by decide) rfl (Nat.le_of_ble_eq_true rfl) (Nat.zero_add _) (Nat.zero_add _) ?_
    refine ev_gets (X := M_X11_isEnd) (pc := 9) (q := ("GreenPath", "WEIGHT", "[I", vR 3)) dX11_isEnd_9 st_3 kw_180 ?_
    refine ev_iload_n (X := M_X11_isEnd) (pc := 12) dX11_isEnd_12 rfl ?_
    refine ev_ialoadE (X := M_X11_isEnd) (pc := 13) dX11_isEnd_13 (lS_3 hL) (by omega) (congrFun hV.2.2 _) ?_
    refine ev_imul (X := M_X11_isEnd) (pc := 14) dX11_isEnd_14 ?_
    refine ev_iload_n (X := M_X11_isEnd) (pc := 15) dX11_isEnd_15 rfl ?_
    refine ev_icmp_ne (X := M_X11_isEnd) (pc := 16) (tgt := 23) dX11_isEnd_16 (by decide) (by omega) (by omega) (fun h16 => ?_) (fun h16 => ?_)
    · have hno : ¬ enD s k := fun z => h16 (hi.mpr z).2
      refine ev_iconst (X := M_X11_isEnd) (pc := 23) dX11_isEnd_23 ?_
      refine ev_bret (X := M_X11_isEnd) (pc := 24) dX11_isEnd_24 rfl (by decide) ?_
      first
        | exact ⟨by rw [if_neg hno], rfl, rfl⟩
        | exact ⟨by rw [if_pos hye], rfl, rfl⟩
    · have hye : enD s k := hi.mp ⟨by omega, h16⟩
      refine ev_iconst (X := M_X11_isEnd) (pc := 19) dX11_isEnd_19 ?_
      refine ev_goto (X := M_X11_isEnd) (pc := 20) (tgt := 24) dX11_isEnd_20 (by decide) ?_
      refine ev_bret (X := M_X11_isEnd) (pc := 24) dX11_isEnd_24 rfl (by decide) ?_
      first
        | exact ⟨by rw [if_neg hno], rfl, rfl⟩
        | exact ⟨by rw [if_pos hye], rfl, rfl⟩
theorem m_isEnd {γ : Gh} {K : Sk} {V : Mm} {s k : Int} (hs : 0 ≤ s ∧ s < 2197) (hk : 0 ≤ k ∧ k < 3) : Call γ M_X12_isEnd 1 0 0 [vR 156, vI s, vI k] K V (Rt (some (vI (if enD s k then 1 else 0))) K V) := by
  refine call_of (by decide +kernel) (by intro v hv; simp only [List.mem_cons, List.not_mem_nil, or_false] at hv; rcases hv with rfl | rfl | rfl <;> exact fun q => by cases q) (Nat.le_of_ble_eq_true rfl) ?_
  refine ev_lsE (ls' := [_, _, _]) rfl ?_
  have hc := cnt_r s k
  have hb := bei_r (s := s) (by omega)
  refine ev_iload_n (X := M_X12_isEnd) (pc := 0) dX12_isEnd_0 rfl ?_
  refine ev_staticR (X := M_X12_isEnd) (Y := M_X12_allIn) (pc := 1) dX12_isEnd_1 mk_X12_allIn kw_1172 kw_1173 (m_allIn (by omega)) rfl (by decide) rfl (Nat.le_of_ble_eq_true rfl) (Nat.zero_add _) (Nat.zero_add _) ?_
  refine ev_if_le (X := M_X12_isEnd) (pc := 4) (tgt := 23) dX12_isEnd_4 (by decide) (by omega) (fun h4 => ?_) (fun h4 => ?_)
  · have hno : ¬ enD s k := fun z => by have := z.1; omega
    refine ev_iconst (X := M_X12_isEnd) (pc := 23) dX12_isEnd_23 ?_
    refine ev_bret (X := M_X12_isEnd) (pc := 24) dX12_isEnd_24 rfl (by decide) ?_
    first
      | exact ⟨by rw [if_neg hno], rfl, rfl⟩
      | exact ⟨by rw [if_pos hye], rfl, rfl⟩
  · refine ev_iload_n (X := M_X12_isEnd) (pc := 7) dX12_isEnd_7 rfl ?_
    refine ev_iload_n (X := M_X12_isEnd) (pc := 8) dX12_isEnd_8 rfl ?_
    refine ev_staticR (X := M_X12_isEnd) (Y := M_X12_countIn) (pc := 9) dX12_isEnd_9 mk_X12_countIn kw_1223 kw_1224 (m_countIn hs hk) rfl (by decide) rfl (Nat.le_of_ble_eq_true rfl) (Nat.zero_add _) (Nat.zero_add _) ?_
    refine ev_iload_n (X := M_X12_isEnd) (pc := 12) dX12_isEnd_12 rfl ?_
    refine ev_staticR (X := M_X12_isEnd) (Y := M_X12_allIn) (pc := 13) dX12_isEnd_13 mk_X12_allIn kw_1172 kw_1173 (m_allIn (by omega)) rfl (by decide) rfl (Nat.le_of_ble_eq_true rfl) (Nat.zero_add _) (Nat.zero_add _) ?_
    refine ev_icmp_ne (X := M_X12_isEnd) (pc := 16) (tgt := 23) dX12_isEnd_16 (by decide) (by omega) (by omega) (fun h16 => ?_) (fun h16 => ?_)
    · have hno : ¬ enD s k := fun z => h16 z.2
      refine ev_iconst (X := M_X12_isEnd) (pc := 23) dX12_isEnd_23 ?_
      refine ev_bret (X := M_X12_isEnd) (pc := 24) dX12_isEnd_24 rfl (by decide) ?_
      first
        | exact ⟨by rw [if_neg hno], rfl, rfl⟩
        | exact ⟨by rw [if_pos hye], rfl, rfl⟩
    · have hye : enD s k := ⟨by omega, h16⟩
      refine ev_iconst (X := M_X12_isEnd) (pc := 19) dX12_isEnd_19 ?_
      refine ev_goto (X := M_X12_isEnd) (pc := 20) (tgt := 24) dX12_isEnd_20 (by decide) ?_
      refine ev_bret (X := M_X12_isEnd) (pc := 24) dX12_isEnd_24 rfl (by decide) ?_
      first
        | exact ⟨by rw [if_neg hno], rfl, rfl⟩
        | exact ⟨by rw [if_pos hye], rfl, rfl⟩
def hx (C : Int → Int) (F : Int) (U : Int → Int) (s p : Int) : Prop := ∃ p', 0 ≤ p' ∧ p' < p ∧ hitP C F U s p'
theorem hx_0 {C : Int → Int} {F : Int} {U : Int → Int} {s : Int} : ¬ hx C F U s 0 := by
  rintro ⟨p, h0, h1, _⟩
  omega
theorem hx_s {C : Int → Int} {F : Int} {U : Int → Int} {s p : Int} (hp : 0 ≤ p) : hx C F U s (p + 1) ↔ (hx C F U s p ∨ hitP C F U s p) := by
  constructor
  · rintro ⟨p', h0, h1, h2⟩
    by_cases z : p' = p
    · rw [z] at h2; exact Or.inr h2
    · exact Or.inl ⟨p', h0, by omega, h2⟩
  · rintro (⟨p', h0, h1, h2⟩ | h)
    · exact ⟨p', h0, by omega, h2⟩
    · exact ⟨p, hp, by omega, h⟩
theorem hx_6 {C : Int → Int} {F : Int} {U : Int → Int} {s : Int} : hx C F U s 6 ↔ hit C F U s := by
  constructor
  · rintro ⟨p', h0, h1, h2⟩
    exact hit_of ⟨h0, h1⟩ h2
  · intro h
    exact Classical.byContradiction fun q => hit_no (fun p h0 h1 hh => q ⟨p, h0, h1, hh⟩) h
theorem iand01 {x y : Int} (hx : x = 0 ∨ x = 1) (hy : y = 0 ∨ y = 1) : (op_iand x y = 0 ∨ op_iand x y = 1) ∧ (op_iand x y = 1 ↔ (x = 1 ∧ y = 1)) := by
  rcases hx with rfl | rfl <;> rcases hy with rfl | rfl <;> decide
abbrev nt (U : Int → Int) : Int → Int := fun t => 1 - U t
abbrev o1 : Int → Int := fun _ => 1
/-- by so many turns: the first one tells next; the other one does -/
def frc (C : Int → Int) (F k : Int) : Nat → (Int → Int) × (Int → Int)
  | 0 => (fun s => if enD s k then 1 else 0, fun s => if enD s k then 1 else 0)
  | n + 1 => (fun s => if enD s k ∨ (isSt s ∧ hit C F (frc C F k n).2 s) then 1 else 0, fun s => if enD s k ∨ (isSt s ∧ hit C F o1 s ∧ ¬ hit C F (nt (frc C F k n).1) s) then 1 else 0)
theorem frc_01 {C : Int → Int} {F k : Int} (n : Nat) (s : Int) : ((frc C F k n).1 s = 0 ∨ (frc C F k n).1 s = 1) ∧ ((frc C F k n).2 s = 0 ∨ (frc C F k n).2 s = 1) := by
  cases n with
  | zero =>
    show ((if enD s k then (1 : Int) else 0) = 0 ∨ (if enD s k then (1 : Int) else 0) = 1) ∧ _
    refine ⟨by split <;> omega, ?_⟩
    show (if enD s k then (1 : Int) else 0) = 0 ∨ (if enD s k then (1 : Int) else 0) = 1
    split <;> omega
  | succ n =>
    refine ⟨?_, ?_⟩
    · show (if enD s k ∨ (isSt s ∧ hit C F (frc C F k n).2 s) then (1 : Int) else 0) = 0 ∨ (if enD s k ∨ (isSt s ∧ hit C F (frc C F k n).2 s) then (1 : Int) else 0) = 1
      split <;> omega
    · show (if enD s k ∨ (isSt s ∧ hit C F o1 s ∧ ¬ hit C F (nt (frc C F k n).1) s) then (1 : Int) else 0) = 0 ∨ (if enD s k ∨ (isSt s ∧ hit C F o1 s ∧ ¬ hit C F (nt (frc C F k n).1) s) then (1 : Int) else 0) = 1
      split <;> omega
theorem frc_1 {C : Int → Int} {F k s : Int} {n : Nat} : (frc C F k (n + 1)).1 s = 1 ↔ (enD s k ∨ (isSt s ∧ hit C F (frc C F k n).2 s)) := by
  show (if enD s k ∨ (isSt s ∧ hit C F (frc C F k n).2 s) then (1 : Int) else 0) = 1 ↔ _
  by_cases z : enD s k ∨ (isSt s ∧ hit C F (frc C F k n).2 s)
  · rw [if_pos z]; exact ⟨fun _ => z, fun _ => rfl⟩
  · rw [if_neg z]; exact ⟨fun y => absurd y (by decide), fun y => absurd y z⟩
theorem frc_2 {C : Int → Int} {F k s : Int} {n : Nat} : (frc C F k (n + 1)).2 s = 1 ↔ (enD s k ∨ (isSt s ∧ hit C F o1 s ∧ ¬ hit C F (nt (frc C F k n).1) s)) := by
  show (if enD s k ∨ (isSt s ∧ hit C F o1 s ∧ ¬ hit C F (nt (frc C F k n).1) s) then (1 : Int) else 0) = 1 ↔ _
  by_cases z : enD s k ∨ (isSt s ∧ hit C F o1 s ∧ ¬ hit C F (nt (frc C F k n).1) s)
  · rw [if_pos z]; exact ⟨fun _ => z, fun _ => rfl⟩
  · rw [if_neg z]; exact ⟨fun y => absurd y (by decide), fun y => absurd y z⟩
theorem frc_0 {C : Int → Int} {F k s : Int} : ((frc C F k 0).1 s = 1 ↔ enD s k) ∧ ((frc C F k 0).2 s = 1 ↔ enD s k) := by
  have : (if enD s k then (1 : Int) else 0) = 1 ↔ enD s k := by
    by_cases z : enD s k
    · rw [if_pos z]; exact ⟨fun _ => z, fun _ => rfl⟩
    · rw [if_neg z]; exact ⟨fun y => absurd y (by decide), fun y => absurd y z⟩
  exact ⟨this, this⟩
theorem hit_mono {C : Int → Int} {F : Int} {U U' : Int → Int} {s : Int} (h : ∀ t, U t = 1 → U' t = 1) (hh : hit C F U s) : hit C F U' s := by
  obtain ⟨p, h0, h1, h2⟩ := hx_6.mpr hh
  exact hit_of ⟨h0, h1⟩ ⟨h2.1, h _ h2.2⟩
theorem frc_mono {C : Int → Int} {F k : Int} : ∀ (n : Nat) (s : Int), ((frc C F k n).1 s = 1 → (frc C F k (n + 1)).1 s = 1) ∧ ((frc C F k n).2 s = 1 → (frc C F k (n + 1)).2 s = 1)
  | 0, s => ⟨fun z => frc_1.mpr (Or.inl (frc_0.1.mp z)), fun z => frc_2.mpr (Or.inl (frc_0.2.mp z))⟩
  | n + 1, s => by
    refine ⟨fun z => frc_1.mpr ?_, fun z => frc_2.mpr ?_⟩
    · rcases frc_1.mp z with y | ⟨y1, y2⟩
      · exact Or.inl y
      · exact Or.inr ⟨y1, hit_mono (fun t => (frc_mono n t).2) y2⟩
    · rcases frc_2.mp z with y | ⟨y1, y2, y3⟩
      · exact Or.inl y
      · refine Or.inr ⟨y1, y2, fun q => y3 (hit_mono (fun t ht => ?_) q)⟩
        change 1 - (frc C F k n).1 t = 1
        change 1 - (frc C F k (n + 1)).1 t = 1 at ht
        have h01 := (frc_01 (C := C) (F := F) (k := k) n t).1
        have := (frc_mono (C := C) (F := F) (k := k) n t).1
        omega
/-- a mark tells the fewest turns, so far as they have been worked out -/
def RM (U : Nat → Int → Int) (T : Nat) (s M : Int) : Prop := ((0 ≤ M ∧ M ≤ T) ∨ M = 99) ∧ ∀ n : Nat, n ≤ T → (M ≤ n ↔ U n s = 1)
theorem RM.lt {U : Nat → Int → Int} {T : Nat} {s M : Int} (h : RM U T s M) {n : Nat} (hn : n ≤ T) : M < (n : Int) + 1 ↔ U n s = 1 := by
  have := h.2 n hn
  constructor
  · intro z; exact this.mp (by omega)
  · intro z; have := this.mpr z; omega
theorem RM.nxt {U : Nat → Int → Int} {T : Nat} {s M : Int} (hT : T < 20) (hm : ∀ n, U n s = 1 → U (n + 1) s = 1) (h : RM U T s M) {M' : Int} (hM' : (M = 99 ∧ U (T + 1) s = 1 ∧ M' = T + 1) ∨ (¬ (M = 99 ∧ U (T + 1) s = 1) ∧ M' = M)) : RM U (T + 1) s M' := by
  obtain ⟨h1, h2⟩ := h
  rcases hM' with ⟨a, b, c⟩ | ⟨a, c⟩
  · subst c
    refine ⟨Or.inl (by omega), fun n hn => ?_⟩
    by_cases z : n = T + 1
    · subst z; exact ⟨fun _ => b, fun _ => by omega⟩
    · have := h2 n (by omega)
      constructor
      · intro y; omega
      · intro y; have := this.mpr y; omega
  · rw [c]
    refine ⟨by omega, fun n hn => ?_⟩
    by_cases z : n = T + 1
    · subst z
      have hT2 := h2 T (Nat.le_refl _)
      constructor
      · intro y
        exact hm T (hT2.mp (by omega))
      · intro y
        have : M ≠ 99 := fun q => a ⟨q, y⟩
        omega
    · exact h2 n (by omega)
/-- the fewest turns, up to ten -/
def fL (U : Nat → Int → Int) (s : Int) : Nat → Int
  | 0 => -1
  | m + 1 => if U (10 - m) s = 1 then ((10 - m : Nat) : Int) else fL U s m
theorem fL_no {U : Nat → Int → Int} {s : Int} : ∀ m : Nat, m ≤ 11 → (∀ n, n ≤ 10 → 11 ≤ n + m → U n s ≠ 1) → fL U s m = -1
  | 0, _, _ => rfl
  | m + 1, hm, h => by
    show (if U (10 - m) s = 1 then ((10 - m : Nat) : Int) else fL U s m) = -1
    rw [if_neg (h (10 - m) (by omega) (by omega))]
    exact fL_no m (by omega) (fun n h1 h2 => h n h1 (by omega))
theorem fL_yes {U : Nat → Int → Int} {s : Int} {M : Nat} (hM : M ≤ 10) (hU : U M s = 1) (hl : ∀ n, n < M → U n s ≠ 1) : ∀ m : Nat, m ≤ 11 → 11 ≤ M + m → fL U s m = M
  | 0, h1, h2 => by omega
  | m + 1, h1, h2 => by
    show (if U (10 - m) s = 1 then ((10 - m : Nat) : Int) else fL U s m) = M
    by_cases z : 10 - m = M
    · rw [z, if_pos hU]
    · rw [if_neg (hl (10 - m) (by omega))]
      exact fL_yes hM hU hl m (by omega) (by omega)
theorem fL_RM {U : Nat → Int → Int} {s M : Int} {T : Nat} (h : RM U T s M) (hT : T ≤ 10) (hd : M ≠ 99 ∨ T = 10) : fL U s 11 = if M = 99 then -1 else M := by
  obtain ⟨h1, h2⟩ := h
  by_cases z : M = 99
  · rw [if_pos z]
    exact fL_no 11 (Nat.le_refl _) (fun n n1 _ => fun q => by have := (h2 n (by omega)).mpr q; omega)
  · rw [if_neg z]
    have hM : 0 ≤ M ∧ M ≤ T := h1.resolve_right z
    obtain ⟨m, hm⟩ : ∃ m : Nat, M = m := ⟨M.toNat, by omega⟩
    subst hm
    exact fL_yes (by omega) ((h2 m (by omega)).mp (Int.le_refl _)) (fun n hn q => by have := (h2 n (by omega)).mpr q; omega) 11 (Nat.le_refl _) (by omega)
theorem fL_r {U : Nat → Int → Int} {s : Int} : ∀ m, -1 ≤ fL U s m ∧ fL U s m ≤ 10
  | 0 => by show (-1 : Int) ≤ -1 ∧ (-1 : Int) ≤ 10; decide
  | m + 1 => by
    show -1 ≤ (if U (10 - m) s = 1 then ((10 - m : Nat) : Int) else fL U s m) ∧ (if U (10 - m) s = 1 then ((10 - m : Nat) : Int) else fL U s m) ≤ 10
    split
    · omega
    · exact fL_r m
theorem c_forceWithin {γ : Gh} {K : Sk} {V : Mm} {C : Int → Int} {F T s : Int} {Uf Uo : Int → Int} {ma mb : Nat} (h : SrP K V C F) (hM : MK K ma mb) (hs : isSt s) (hT : 1 ≤ T ∧ T ≤ 10) (hU : ∀ p, 0 ≤ p → p < 6 → nx C F s p ≠ -1 → (0 ≤ V ma (pl (nx C F s p)) ∧ V ma (pl (nx C F s p)) ≤ 99) ∧ (0 ≤ V mb (pl (nx C F s p)) ∧ V mb (pl (nx C F s p)) ≤ 99) ∧ (V ma (pl (nx C F s p)) < T ↔ Uf (nx C F s p) = 1) ∧ (V mb (pl (nx C F s p)) < T ↔ Uo (nx C F s p) = 1)) (h01 : ∀ t, Uf t = 0 ∨ Uf t = 1) (ha : 0 ≤ V ma (pl s) ∧ V ma (pl s) ≤ 99) (hb : 0 ≤ V mb (pl s) ∧ V mb (pl s) ≤ 99) : Call γ M_X6_forceWithin 4 0 0 [vR 101, vI T, vI (pl s)] K V (Qx none K (fun W => (∀ c, c ≠ 119 → c ≠ ma → c ≠ mb → W c = V c) ∧ COk C F (W 119) ∧ (∃ x, W ma = up (V ma) (pl s) x ∧ ((V ma (pl s) = 99 ∧ hx C F Uo s 6 ∧ x = T) ∨ (¬ (V ma (pl s) = 99 ∧ hx C F Uo s 6) ∧ x = V ma (pl s)))) ∧ (∃ x, W mb = up (V mb) (pl s) x ∧ ((V mb (pl s) = 99 ∧ (hx C F o1 s 6 ∧ ¬ hx C F (nt Uf) s 6) ∧ x = T) ∨ (¬ (V mb (pl s) = 99 ∧ (hx C F o1 s 6 ∧ ¬ hx C F (nt Uf) s 6)) ∧ x = V mb (pl s)))))) := by
  refine call_of (by decide +kernel) (by intro v hv; simp only [List.mem_cons, List.not_mem_nil, or_false] at hv; rcases hv with rfl | rfl | rfl <;> exact fun q => by cases q) (Nat.le_of_ble_eq_true rfl) ?_
  refine ev_lsE (ls' := [_, _, _, _, _, _, _, _]) rfl ?_
  have hL := h.1
  obtain ⟨z1, z2, z3, z4⟩ := hM.sh hL
  have hab := hM.2.2
  have hC := h.2.2.2.1
  obtain ⟨g0, g1, g2⟩ := pl_st hs
  have n1 : (119 : Nat) ≠ ma := by omega
  have upid : ∀ (f : Int → Int) (i : Int), f = up f i (f i) := fun f i => by
    funext j
    by_cases z : j = i
    · rw [z, up_self]
    · rw [up_ne z]
  refine ev_iconst (X := M_X6_forceWithin) (pc := 0) dX6_forceWithin_0 ?_
  refine ev_istore_nL (X := M_X6_forceWithin) (pc := 1) (ls' := [_, _, _, _, _, _, _, _]) dX6_forceWithin_1 (by decide) rfl ?_
  refine ev_iconst (X := M_X6_forceWithin) (pc := 2) dX6_forceWithin_2 ?_
  refine ev_istoreL (X := M_X6_forceWithin) (pc := 3) (ls' := [_, _, _, _, _, _, _, _]) dX6_forceWithin_3 (by decide) rfl ?_
  refine ev_iconst (X := M_X6_forceWithin) (pc := 5) dX6_forceWithin_5 ?_
  refine ev_istoreL (X := M_X6_forceWithin) (pc := 6) (ls' := [_, _, _, _, _, _, _, _]) dX6_forceWithin_6 (by decide) rfl ?_
  refine ev_iconst (X := M_X6_forceWithin) (pc := 8) dX6_forceWithin_8 ?_
  refine ev_istoreL (X := M_X6_forceWithin) (pc := 9) (ls' := [_, _, _, _, _, _, _, _]) dX6_forceWithin_9 (by decide) rfl ?_
  refine ev_weak (ev_while (σ := Int × Int × Int × Int × Mm) (fun z => 0 ≤ z.1 ∧ z.1 ≤ 6 ∧ fr1 119 V z.2.2.2.2 ∧ COk C F (z.2.2.2.2 119) ∧ ((z.2.1 = 0 ∨ z.2.1 = 1) ∧ (z.2.1 = 1 ↔ hx C F Uo s z.1)) ∧ ((z.2.2.1 = 0 ∨ z.2.2.1 = 1) ∧ (z.2.2.1 = 1 ↔ hx C F o1 s z.1)) ∧ ((z.2.2.2.1 = 0 ∨ z.2.2.2.1 = 1) ∧ (z.2.2.2.1 = 1 ↔ ¬ hx C F (nt Uf) s z.1))) (fun z => (6 - z.1).toNat) (fun z => [vR 101, vI T, vI (pl s), vI z.2.1, vI z.2.2.1, vI z.2.2.2.1, vI z.1, vU]) (fun _ => K) (fun z => z.2.2.2.2) ?_ (0, 0, 0, 1, V) ⟨Int.le_refl 0, by show (0 : Int) ≤ 6; decide, fun _ _ => rfl, h.2.2.2.2.2.2.2, ⟨Or.inl rfl, fun y => absurd y (by show ¬ (0 : Int) = 1; decide), fun y => absurd y hx_0⟩, ⟨Or.inl rfl, fun y => absurd y (by show ¬ (0 : Int) = 1; decide), fun y => absurd y hx_0⟩, ⟨Or.inr rfl, fun _ => hx_0, fun _ => rfl⟩⟩) ⟨rfl, rfl, rfl, rfl, rfl, rfl, rfl, trivial⟩
  rintro ⟨p, so, an, al, W⟩ ⟨p0, p1, w1, w2, ⟨so1, so2⟩, ⟨an1, an2⟩, ⟨al1, al2⟩⟩ ih
  dsimp only at p0 p1 w1 w2 so1 so2 an1 an2 al1 al2 ih ⊢
  have hS : SrP K W C F := h.frS hL (fun c z => w1 c (by omega)) w2
  have hWa : W ma = V ma := w1 ma (by omega)
  have hWb : W mb = V mb := w1 mb (by omega)
  refine ev_iload (X := M_X6_forceWithin) (pc := 11) dX6_forceWithin_11 rfl ?_
  refine ev_bipush (X := M_X6_forceWithin) (pc := 13) dX6_forceWithin_13 (by decide) ?_
  refine ev_icmp_ge (X := M_X6_forceWithin) (pc := 15) (tgt := 82) dX6_forceWithin_15 (by decide) (by omega) (by omega) (fun h15 => ?_) (fun h15 => ?_)
  · have hp : p = 6 := by omega
    subst hp
    have ph2 : ∀ W2, (∀ c, c ≠ 119 → c ≠ ma → W2 c = V c) → COk C F (W2 119) → (∃ x, W2 ma = up (V ma) (pl s) x ∧ ((V ma (pl s) = 99 ∧ hx C F Uo s 6 ∧ x = T) ∨ (¬ (V ma (pl s) = 99 ∧ hx C F Uo s 6) ∧ x = V ma (pl s)))) → Ev γ M_X6_forceWithin 4 0 0 104 [vR 101, vI T, vI (pl s), vU, vI an, vI al, vU, vU] [] K W2 (Qx none K (fun W => (∀ c, c ≠ 119 → c ≠ ma → c ≠ mb → W c = V c) ∧ COk C F (W 119) ∧ (∃ x, W ma = up (V ma) (pl s) x ∧ ((V ma (pl s) = 99 ∧ hx C F Uo s 6 ∧ x = T) ∨ (¬ (V ma (pl s) = 99 ∧ hx C F Uo s 6) ∧ x = V ma (pl s)))) ∧ (∃ x, W mb = up (V mb) (pl s) x ∧ ((V mb (pl s) = 99 ∧ (hx C F o1 s 6 ∧ ¬ hx C F (nt Uf) s 6) ∧ x = T) ∨ (¬ (V mb (pl s) = 99 ∧ (hx C F o1 s 6 ∧ ¬ hx C F (nt Uf) s 6)) ∧ x = V mb (pl s)))))) := by
      intro W2 y1 y2 y3
      have hb2 : W2 mb = V mb := y1 mb (by omega) (by omega)
      have fino : ¬ (V mb (pl s) = 99 ∧ (hx C F o1 s 6 ∧ ¬ hx C F (nt Uf) s 6)) → Qx none K (fun W => (∀ c, c ≠ 119 → c ≠ ma → c ≠ mb → W c = V c) ∧ COk C F (W 119) ∧ (∃ x, W ma = up (V ma) (pl s) x ∧ ((V ma (pl s) = 99 ∧ hx C F Uo s 6 ∧ x = T) ∨ (¬ (V ma (pl s) = 99 ∧ hx C F Uo s 6) ∧ x = V ma (pl s)))) ∧ (∃ x, W mb = up (V mb) (pl s) x ∧ ((V mb (pl s) = 99 ∧ (hx C F o1 s 6 ∧ ¬ hx C F (nt Uf) s 6) ∧ x = T) ∨ (¬ (V mb (pl s) = 99 ∧ (hx C F o1 s 6 ∧ ¬ hx C F (nt Uf) s 6)) ∧ x = V mb (pl s))))) none K W2 := fun q =>
        ⟨rfl, rfl, fun c c1 c2 _ => y1 c c1 c2, y2, y3, V mb (pl s), by rw [hb2]; exact upid _ _, Or.inr ⟨q, rfl⟩⟩
      refine ev_iload (X := M_X6_forceWithin) (pc := 104) dX6_forceWithin_104 rfl ?_
      refine ev_if_eq (X := M_X6_forceWithin) (pc := 106) (tgt := 132) dX6_forceWithin_106 (by decide) (by omega) (fun h106 => ?_) (fun h106 => ?_)
      · have hq : ¬ (V mb (pl s) = 99 ∧ (hx C F o1 s 6 ∧ ¬ hx C F (nt Uf) s 6)) := fun z => by have := an2.mpr z.2.1; omega
        refine ev_vret (X := M_X6_forceWithin) (pc := 132) dX6_forceWithin_132 rfl ?_
        first
          | exact fino hq
          | (refine ⟨rfl, rfl, fun c c1 c2 c3 => by rw [wr_off c3]; exact y1 c c1 c2, by rw [wr_off (by omega)]; exact y2, ?_, T, by rw [wr_row, hb2], Or.inl ⟨h122, ⟨an2.mp (by omega), al2.mp (by omega)⟩, rfl⟩⟩
             rw [wr_off (by omega)]
             exact y3)
      · refine ev_iload (X := M_X6_forceWithin) (pc := 109) dX6_forceWithin_109 rfl ?_
        refine ev_if_eq (X := M_X6_forceWithin) (pc := 111) (tgt := 132) dX6_forceWithin_111 (by decide) (by omega) (fun h111 => ?_) (fun h111 => ?_)
        · have hq : ¬ (V mb (pl s) = 99 ∧ (hx C F o1 s 6 ∧ ¬ hx C F (nt Uf) s 6)) := fun z => by have := al2.mpr z.2.2; omega
          refine ev_vret (X := M_X6_forceWithin) (pc := 132) dX6_forceWithin_132 rfl ?_
          first
            | exact fino hq
            | (refine ⟨rfl, rfl, fun c c1 c2 c3 => by rw [wr_off c3]; exact y1 c c1 c2, by rw [wr_off (by omega)]; exact y2, ?_, T, by rw [wr_row, hb2], Or.inl ⟨h122, ⟨an2.mp (by omega), al2.mp (by omega)⟩, rfl⟩⟩
               rw [wr_off (by omega)]
               exact y3)
        · refine ev_aload_n (X := M_X6_forceWithin) (pc := 114) dX6_forceWithin_114 rfl ?_
          refine ev_getRe (X := M_X6_forceWithin) (pc := 115) dX6_forceWithin_115 fl_X6_37_6 (lO_101 hL) rfl hM.2.1 ?_
          refine ev_iload_n (X := M_X6_forceWithin) (pc := 118) dX6_forceWithin_118 rfl ?_
          refine ev_ialoadE (X := M_X6_forceWithin) (pc := 119) dX6_forceWithin_119 z2 (by omega) (congrFun hb2 _) ?_
          refine ev_bipush (X := M_X6_forceWithin) (pc := 120) dX6_forceWithin_120 (by decide) ?_
          refine ev_icmp_ne (X := M_X6_forceWithin) (pc := 122) (tgt := 132) dX6_forceWithin_122 (by decide) (by omega) (by decide) (fun h122 => ?_) (fun h122 => ?_)
          · have hq : ¬ (V mb (pl s) = 99 ∧ (hx C F o1 s 6 ∧ ¬ hx C F (nt Uf) s 6)) := fun z => h122 z.1
            refine ev_vret (X := M_X6_forceWithin) (pc := 132) dX6_forceWithin_132 rfl ?_
            first
              | exact fino hq
              | (refine ⟨rfl, rfl, fun c c1 c2 c3 => by rw [wr_off c3]; exact y1 c c1 c2, by rw [wr_off (by omega)]; exact y2, ?_, T, by rw [wr_row, hb2], Or.inl ⟨h122, ⟨an2.mp (by omega), al2.mp (by omega)⟩, rfl⟩⟩
                 rw [wr_off (by omega)]
                 exact y3)
          · refine ev_aload_n (X := M_X6_forceWithin) (pc := 125) dX6_forceWithin_125 rfl ?_
            refine ev_getRe (X := M_X6_forceWithin) (pc := 126) dX6_forceWithin_126 fl_X6_37_6 (lO_101 hL) rfl hM.2.1 ?_
            refine ev_iload_n (X := M_X6_forceWithin) (pc := 129) dX6_forceWithin_129 rfl ?_
            refine ev_iload_n (X := M_X6_forceWithin) (pc := 130) dX6_forceWithin_130 rfl ?_
            refine ev_iastore (X := M_X6_forceWithin) (pc := 131) dX6_forceWithin_131 z4 z2 (by omega) ?_
            refine ev_vret (X := M_X6_forceWithin) (pc := 132) dX6_forceWithin_132 rfl ?_
            first
              | exact fino hq
              | (refine ⟨rfl, rfl, fun c c1 c2 c3 => by rw [wr_off c3]; exact y1 c c1 c2, by rw [wr_off (by omega)]; exact y2, ?_, T, by rw [wr_row, hb2], Or.inl ⟨h122, ⟨an2.mp (by omega), al2.mp (by omega)⟩, rfl⟩⟩
                 rw [wr_off (by omega)]
                 exact y3)
    have finn : ¬ (V ma (pl s) = 99 ∧ hx C F Uo s 6) → ∃ x, W ma = up (V ma) (pl s) x ∧ ((V ma (pl s) = 99 ∧ hx C F Uo s 6 ∧ x = T) ∨ (¬ (V ma (pl s) = 99 ∧ hx C F Uo s 6) ∧ x = V ma (pl s))) := fun q => ⟨V ma (pl s), by rw [hWa]; exact upid _ _, Or.inr ⟨q, rfl⟩⟩
    have so_r : R32 so := by rcases so1 with z | z <;> rw [z] <;> decide
    refine ev_iload_n (X := M_X6_forceWithin) (pc := 82) dX6_forceWithin_82 rfl ?_
    refine ev_if_eq (X := M_X6_forceWithin) (pc := 83) (tgt := 104) dX6_forceWithin_83 (by decide) (by exact so_r) (fun h83 => ?_) (fun h83 => ?_)
    · have hq : ¬ (V ma (pl s) = 99 ∧ hx C F Uo s 6) := fun z => by exact absurd ((so2.mpr z.2).symm.trans h83) (by decide)
      first
        | exact ev_weak (ph2 W (fun c c1 _ => w1 c c1) w2 (finn hq)) ⟨rfl, rfl, rfl, rfl, rfl, trivial⟩
        | (refine ev_weak (ph2 (wr W ma (pl s) T) (fun c c1 c2 => by rw [wr_off c2]; exact w1 c c1) (by rw [wr_off n1]; exact w2) ⟨T, by rw [wr_row, hWa], Or.inl ⟨h94, so2.mp (so1.resolve_left h83), rfl⟩⟩) ⟨rfl, rfl, rfl, rfl, rfl, trivial⟩)
    · refine ev_aload_n (X := M_X6_forceWithin) (pc := 86) dX6_forceWithin_86 rfl ?_
      refine ev_getRe (X := M_X6_forceWithin) (pc := 87) dX6_forceWithin_87 fl_X6_34_6 (lO_101 hL) rfl hM.1 ?_
      refine ev_iload_n (X := M_X6_forceWithin) (pc := 90) dX6_forceWithin_90 rfl ?_
      refine ev_ialoadE (X := M_X6_forceWithin) (pc := 91) dX6_forceWithin_91 z1 (by omega) (congrFun hWa _) ?_
      refine ev_bipush (X := M_X6_forceWithin) (pc := 92) dX6_forceWithin_92 (by decide) ?_
      refine ev_icmp_ne (X := M_X6_forceWithin) (pc := 94) (tgt := 104) dX6_forceWithin_94 (by decide) (by omega) (by decide) (fun h94 => ?_) (fun h94 => ?_)
      · have hq : ¬ (V ma (pl s) = 99 ∧ hx C F Uo s 6) := fun z => h94 z.1
        first
          | exact ev_weak (ph2 W (fun c c1 _ => w1 c c1) w2 (finn hq)) ⟨rfl, rfl, rfl, rfl, rfl, trivial⟩
          | (refine ev_weak (ph2 (wr W ma (pl s) T) (fun c c1 c2 => by rw [wr_off c2]; exact w1 c c1) (by rw [wr_off n1]; exact w2) ⟨T, by rw [wr_row, hWa], Or.inl ⟨h94, so2.mp (so1.resolve_left h83), rfl⟩⟩) ⟨rfl, rfl, rfl, rfl, rfl, trivial⟩)
      · refine ev_aload_n (X := M_X6_forceWithin) (pc := 97) dX6_forceWithin_97 rfl ?_
        refine ev_getRe (X := M_X6_forceWithin) (pc := 98) dX6_forceWithin_98 fl_X6_34_6 (lO_101 hL) rfl hM.1 ?_
        refine ev_iload_n (X := M_X6_forceWithin) (pc := 101) dX6_forceWithin_101 rfl ?_
        refine ev_iload_n (X := M_X6_forceWithin) (pc := 102) dX6_forceWithin_102 rfl ?_
        refine ev_iastore (X := M_X6_forceWithin) (pc := 103) dX6_forceWithin_103 z3 z1 (by omega) ?_
        first
          | exact ev_weak (ph2 W (fun c c1 _ => w1 c c1) w2 (finn hq)) ⟨rfl, rfl, rfl, rfl, rfl, trivial⟩
          | (refine ev_weak (ph2 (wr W ma (pl s) T) (fun c c1 c2 => by rw [wr_off c2]; exact w1 c c1) (by rw [wr_off n1]; exact w2) ⟨T, by rw [wr_row, hWa], Or.inl ⟨h94, so2.mp (so1.resolve_left h83), rfl⟩⟩) ⟨rfl, rfl, rfl, rfl, rfl, trivial⟩)
  · refine ev_aload_n (X := M_X6_forceWithin) (pc := 18) dX6_forceWithin_18 rfl ?_
    refine ev_iload_n (X := M_X6_forceWithin) (pc := 19) dX6_forceWithin_19 rfl ?_
    refine ev_iload (X := M_X6_forceWithin) (pc := 20) dX6_forceWithin_20 rfl ?_
    refine ev_virtX (X := M_X6_forceWithin) (Y := M_X6_lead) (pc := 22) (ci := 6) dX6_forceWithin_22 mk_X6_lead rfl kw_669 kw_670 kw_671 (lO_101 hL) (c_lead hS ⟨g0, g1⟩ (by omega)) rfl (by decide) rfl (Nat.le_of_ble_eq_true rfl) (Nat.zero_add _) (Nat.zero_add _) (fun W2 hW2 => ?_)
    have hld := ld_r (F := F) hC (q := pl s) ⟨g0, g1⟩ (p := p) (by omega)
    have hf : fr1 119 V W2 := fun c y => by rw [hW2.1 c y]; exact w1 c y
    have hUp := hU p p0 (by omega)
    have hlde : nx C F s p ≠ -1 → ld C F (pl s) p = pl (nx C F s p) := fun z => by unfold ld; rw [g2, if_neg z]
    have hldn : nx C F s p = -1 → ld C F (pl s) p = -1 := fun z => by unfold ld; rw [g2, if_pos z]
    have hns := fun z => pl_st (nx_st (F := F) hC (p := p) (by omega) hs z)
    have e1 := hx_s (C := C) (F := F) (U := Uo) (s := s) p0
    have e2 := hx_s (C := C) (F := F) (U := o1) (s := s) p0
    have e3 := hx_s (C := C) (F := F) (U := nt Uf) (s := s) p0
    refine ev_istoreL (X := M_X6_forceWithin) (pc := 25) (ls' := [_, _, _, _, _, _, _, _]) dX6_forceWithin_25 (by decide) rfl ?_
    refine ev_iload (X := M_X6_forceWithin) (pc := 27) dX6_forceWithin_27 rfl ?_
    refine ev_iconst (X := M_X6_forceWithin) (pc := 29) dX6_forceWithin_29 ?_
    refine ev_icmp_eq (X := M_X6_forceWithin) (pc := 30) (tgt := 76) dX6_forceWithin_30 (by decide) (by omega) (by omega) (fun h30 => ?_) (fun h30 => ?_)
    · have hn : nx C F s p = -1 := Decidable.byContradiction fun z => by have := hlde z; have := (hns z).1; omega
      have q1 : so = 1 ↔ hx C F Uo s (p + 1) := by rw [e1, so2]; exact ⟨Or.inl, fun z => z.resolve_right (fun y => y.1 hn)⟩
      have q2 : an = 1 ↔ hx C F o1 s (p + 1) := by rw [e2, an2]; exact ⟨Or.inl, fun z => z.resolve_right (fun y => y.1 hn)⟩
      have q3 : al = 1 ↔ ¬ hx C F (nt Uf) s (p + 1) := by rw [e3, al2]; exact ⟨fun z y => z (y.resolve_right (fun y => y.1 hn)), fun z y => z (Or.inl y)⟩
      have hgo := ih (p + 1, so, an, al, W2) ⟨by omega, by omega, hf, hW2.2, ⟨so1, q1⟩, ⟨an1, q2⟩, ⟨al1, q3⟩⟩ (by show (6 - (p + 1)).toNat < (6 - p).toNat; omega)
      refine ev_iincL (X := M_X6_forceWithin) (pc := 76) (ls' := [_, _, _, _, _, _, _, _]) dX6_forceWithin_76 rfl (by decide) rfl ?_
      refine ev_goto (X := M_X6_forceWithin) (pc := 79) (tgt := 11) dX6_forceWithin_79 (by decide) ?_
      exact ev_weak hgo ⟨rfl, rfl, rfl, rfl, rfl, rfl, rfl, trivial⟩
    · have hn : nx C F s p ≠ -1 := fun z => h30 (hldn z)
      obtain ⟨u1, u2, u3, u4⟩ := hUp hn
      obtain ⟨v0, v1, v2⟩ := hns hn
      have hl := hlde hn
      rw [← hl] at u1 u2 u3 u4 v0 v1
      have hva : W2 ma (ld C F (pl s) p) = V ma (ld C F (pl s) p) := congrFun (hf ma (by omega)) _
      have hvb : W2 mb (ld C F (pl s) p) = V mb (ld C F (pl s) p) := congrFun (hf mb (by omega)) _
      have h0f := h01 (nx C F s p)
      have goA : ∀ x y, (x = 0 ∨ x = 1) → (x = 1 ↔ Uo (nx C F s p) = 1) → (y = 0 ∨ y = 1) → (y = 1 ↔ Uf (nx C F s p) = 1) → Ev γ M_X6_forceWithin 4 0 0 11 [vR 101, vI T, vI (pl s), vI (op_ior so x), vI 1, vI (op_iand al y), vI (p + 1), vU] [] K W2 (Qx none K (fun W => (∀ c, c ≠ 119 → c ≠ ma → c ≠ mb → W c = V c) ∧ COk C F (W 119) ∧ (∃ x, W ma = up (V ma) (pl s) x ∧ ((V ma (pl s) = 99 ∧ hx C F Uo s 6 ∧ x = T) ∨ (¬ (V ma (pl s) = 99 ∧ hx C F Uo s 6) ∧ x = V ma (pl s)))) ∧ (∃ x, W mb = up (V mb) (pl s) x ∧ ((V mb (pl s) = 99 ∧ (hx C F o1 s 6 ∧ ¬ hx C F (nt Uf) s 6) ∧ x = T) ∨ (¬ (V mb (pl s) = 99 ∧ (hx C F o1 s 6 ∧ ¬ hx C F (nt Uf) s 6)) ∧ x = V mb (pl s)))))) := fun x y x1 x2 y1 y2 => by
        obtain ⟨a1, a2⟩ := ior01 so1 x1
        obtain ⟨b1, b2⟩ := iand01 al1 y1
        refine ih (p + 1, op_ior so x, 1, op_iand al y, W2) ⟨by omega, by omega, hf, hW2.2, ⟨a1, ?_⟩, ⟨Or.inr rfl, ?_⟩, ⟨b1, ?_⟩⟩ (by show (6 - (p + 1)).toNat < (6 - p).toNat; omega)
        · show op_ior so x = 1 ↔ hx C F Uo s (p + 1)
          rw [a2, e1, so2, x2]
          exact ⟨fun z => z.elim Or.inl (fun w => Or.inr ⟨hn, w⟩), fun z => z.elim Or.inl (fun w => Or.inr w.2)⟩
        · show (1 : Int) = 1 ↔ hx C F o1 s (p + 1)
          rw [e2]
          exact ⟨fun _ => Or.inr ⟨hn, rfl⟩, fun _ => rfl⟩
        · show op_iand al y = 1 ↔ ¬ hx C F (nt Uf) s (p + 1)
          rw [b2, e3, al2, y2]
          have hnt : hitP C F (nt Uf) s p ↔ ¬ Uf (nx C F s p) = 1 := by
            constructor
            · intro z w; have := z.2; change 1 - Uf (nx C F s p) = 1 at this; omega
            · intro z; exact ⟨hn, by show 1 - Uf (nx C F s p) = 1; omega⟩
          rw [hnt]
          constructor
          · rintro ⟨z, w⟩ (y | y)
            · exact z y
            · exact y w
          · intro z
            exact ⟨fun y => z (Or.inl y), Decidable.byContradiction fun y => z (Or.inr y)⟩
      refine ev_iconst (X := M_X6_forceWithin) (pc := 33) dX6_forceWithin_33 ?_
      refine ev_istoreL (X := M_X6_forceWithin) (pc := 34) (ls' := [_, _, _, _, _, _, _, _]) dX6_forceWithin_34 (by decide) rfl ?_
      refine ev_iload_n (X := M_X6_forceWithin) (pc := 36) dX6_forceWithin_36 rfl ?_
      refine ev_aload_n (X := M_X6_forceWithin) (pc := 37) dX6_forceWithin_37 rfl ?_
      refine ev_getRe (X := M_X6_forceWithin) (pc := 38) dX6_forceWithin_38 fl_X6_37_6 (lO_101 hL) rfl hM.2.1 ?_
      refine ev_iload (X := M_X6_forceWithin) (pc := 41) dX6_forceWithin_41 rfl ?_
      refine ev_ialoadE (X := M_X6_forceWithin) (pc := 43) dX6_forceWithin_43 z2 (by omega) (hvb) ?_
      refine ev_iload_n (X := M_X6_forceWithin) (pc := 44) dX6_forceWithin_44 rfl ?_
      refine ev_icmp_ge (X := M_X6_forceWithin) (pc := 45) (tgt := 52) dX6_forceWithin_45 (by decide) (by omega) (by omega) (fun h45 => ?_) (fun h45 => ?_)
      · have hx2 : (0 : Int) = 1 ↔ Uo (nx C F s p) = 1 := ⟨fun z => absurd z (by decide), fun z => by have := u4.mpr z; omega⟩
        have hx1 : (0 : Int) = 0 ∨ (0 : Int) = 1 := Or.inl rfl
        refine ev_iconst (X := M_X6_forceWithin) (pc := 52) dX6_forceWithin_52 ?_
        refine ev_ior (X := M_X6_forceWithin) (pc := 53) dX6_forceWithin_53 ?_
        refine ev_istore_nL (X := M_X6_forceWithin) (pc := 54) (ls' := [_, _, _, _, _, _, _, _]) dX6_forceWithin_54 (by decide) rfl ?_
        refine ev_iload (X := M_X6_forceWithin) (pc := 55) dX6_forceWithin_55 rfl ?_
        refine ev_aload_n (X := M_X6_forceWithin) (pc := 57) dX6_forceWithin_57 rfl ?_
        refine ev_getRe (X := M_X6_forceWithin) (pc := 58) dX6_forceWithin_58 fl_X6_34_6 (lO_101 hL) rfl hM.1 ?_
        refine ev_iload (X := M_X6_forceWithin) (pc := 61) dX6_forceWithin_61 rfl ?_
        refine ev_ialoadE (X := M_X6_forceWithin) (pc := 63) dX6_forceWithin_63 z1 (by omega) (hva) ?_
        refine ev_iload_n (X := M_X6_forceWithin) (pc := 64) dX6_forceWithin_64 rfl ?_
        refine ev_icmp_ge (X := M_X6_forceWithin) (pc := 65) (tgt := 72) dX6_forceWithin_65 (by decide) (by omega) (by omega) (fun h65 => ?_) (fun h65 => ?_)
        · have hy2 : (0 : Int) = 1 ↔ Uf (nx C F s p) = 1 := ⟨fun z => absurd z (by decide), fun z => by have := u3.mpr z; omega⟩
          have hgo := goA _ _ hx1 hx2 (Or.inl rfl) hy2
          refine ev_iconst (X := M_X6_forceWithin) (pc := 72) dX6_forceWithin_72 ?_
          refine ev_iand (X := M_X6_forceWithin) (pc := 73) dX6_forceWithin_73 ?_
          refine ev_istoreL (X := M_X6_forceWithin) (pc := 74) (ls' := [_, _, _, _, _, _, _, _]) dX6_forceWithin_74 (by decide) rfl ?_
          refine ev_iincL (X := M_X6_forceWithin) (pc := 76) (ls' := [_, _, _, _, _, _, _, _]) dX6_forceWithin_76 rfl (by decide) rfl ?_
          refine ev_goto (X := M_X6_forceWithin) (pc := 79) (tgt := 11) dX6_forceWithin_79 (by decide) ?_
          exact ev_weak hgo ⟨rfl, rfl, rfl, rfl, rfl, rfl, rfl, trivial⟩
        · have hy2 : (1 : Int) = 1 ↔ Uf (nx C F s p) = 1 := ⟨fun _ => u3.mp (by omega), fun _ => rfl⟩
          have hgo := goA _ _ hx1 hx2 (Or.inr rfl) hy2
          refine ev_iconst (X := M_X6_forceWithin) (pc := 68) dX6_forceWithin_68 ?_
          refine ev_goto (X := M_X6_forceWithin) (pc := 69) (tgt := 73) dX6_forceWithin_69 (by decide) ?_
          refine ev_iand (X := M_X6_forceWithin) (pc := 73) dX6_forceWithin_73 ?_
          refine ev_istoreL (X := M_X6_forceWithin) (pc := 74) (ls' := [_, _, _, _, _, _, _, _]) dX6_forceWithin_74 (by decide) rfl ?_
          refine ev_iincL (X := M_X6_forceWithin) (pc := 76) (ls' := [_, _, _, _, _, _, _, _]) dX6_forceWithin_76 rfl (by decide) rfl ?_
          refine ev_goto (X := M_X6_forceWithin) (pc := 79) (tgt := 11) dX6_forceWithin_79 (by decide) ?_
          exact ev_weak hgo ⟨rfl, rfl, rfl, rfl, rfl, rfl, rfl, trivial⟩
      · have hx2 : (1 : Int) = 1 ↔ Uo (nx C F s p) = 1 := ⟨fun _ => u4.mp (by omega), fun _ => rfl⟩
        have hx1 : (1 : Int) = 0 ∨ (1 : Int) = 1 := Or.inr rfl
        refine ev_iconst (X := M_X6_forceWithin) (pc := 48) dX6_forceWithin_48 ?_
        refine ev_goto (X := M_X6_forceWithin) (pc := 49) (tgt := 53) dX6_forceWithin_49 (by decide) ?_
        refine ev_ior (X := M_X6_forceWithin) (pc := 53) dX6_forceWithin_53 ?_
        refine ev_istore_nL (X := M_X6_forceWithin) (pc := 54) (ls' := [_, _, _, _, _, _, _, _]) dX6_forceWithin_54 (by decide) rfl ?_
        refine ev_iload (X := M_X6_forceWithin) (pc := 55) dX6_forceWithin_55 rfl ?_
        refine ev_aload_n (X := M_X6_forceWithin) (pc := 57) dX6_forceWithin_57 rfl ?_
        refine ev_getRe (X := M_X6_forceWithin) (pc := 58) dX6_forceWithin_58 fl_X6_34_6 (lO_101 hL) rfl hM.1 ?_
        refine ev_iload (X := M_X6_forceWithin) (pc := 61) dX6_forceWithin_61 rfl ?_
        refine ev_ialoadE (X := M_X6_forceWithin) (pc := 63) dX6_forceWithin_63 z1 (by omega) (hva) ?_
        refine ev_iload_n (X := M_X6_forceWithin) (pc := 64) dX6_forceWithin_64 rfl ?_
        refine ev_icmp_ge (X := M_X6_forceWithin) (pc := 65) (tgt := 72) dX6_forceWithin_65 (by decide) (by omega) (by omega) (fun h65 => ?_) (fun h65 => ?_)
        · have hy2 : (0 : Int) = 1 ↔ Uf (nx C F s p) = 1 := ⟨fun z => absurd z (by decide), fun z => by have := u3.mpr z; omega⟩
          have hgo := goA _ _ hx1 hx2 (Or.inl rfl) hy2
          refine ev_iconst (X := M_X6_forceWithin) (pc := 72) dX6_forceWithin_72 ?_
          refine ev_iand (X := M_X6_forceWithin) (pc := 73) dX6_forceWithin_73 ?_
          refine ev_istoreL (X := M_X6_forceWithin) (pc := 74) (ls' := [_, _, _, _, _, _, _, _]) dX6_forceWithin_74 (by decide) rfl ?_
          refine ev_iincL (X := M_X6_forceWithin) (pc := 76) (ls' := [_, _, _, _, _, _, _, _]) dX6_forceWithin_76 rfl (by decide) rfl ?_
          refine ev_goto (X := M_X6_forceWithin) (pc := 79) (tgt := 11) dX6_forceWithin_79 (by decide) ?_
          exact ev_weak hgo ⟨rfl, rfl, rfl, rfl, rfl, rfl, rfl, trivial⟩
        · have hy2 : (1 : Int) = 1 ↔ Uf (nx C F s p) = 1 := ⟨fun _ => u3.mp (by omega), fun _ => rfl⟩
          have hgo := goA _ _ hx1 hx2 (Or.inr rfl) hy2
          refine ev_iconst (X := M_X6_forceWithin) (pc := 68) dX6_forceWithin_68 ?_
          refine ev_goto (X := M_X6_forceWithin) (pc := 69) (tgt := 73) dX6_forceWithin_69 (by decide) ?_
          refine ev_iand (X := M_X6_forceWithin) (pc := 73) dX6_forceWithin_73 ?_
          refine ev_istoreL (X := M_X6_forceWithin) (pc := 74) (ls' := [_, _, _, _, _, _, _, _]) dX6_forceWithin_74 (by decide) rfl ?_
          refine ev_iincL (X := M_X6_forceWithin) (pc := 76) (ls' := [_, _, _, _, _, _, _, _]) dX6_forceWithin_76 rfl (by decide) rfl ?_
          refine ev_goto (X := M_X6_forceWithin) (pc := 79) (tgt := 11) dX6_forceWithin_79 (by decide) ?_
          exact ev_weak hgo ⟨rfl, rfl, rfl, rfl, rfl, rfl, rfl, trivial⟩
