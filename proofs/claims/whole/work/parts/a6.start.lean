/-! ===== the state at the law's entry ===== -/
def k0 (L a : Nat) : Nat × Nat := if a = 1 then (1, 6) else if a = 2 then (1, 6) else if a = 3 then (1, 3) else if a = 4 then (1, 13) else if a = 5 then (2, 6) else if 10 ≤ a ∧ a < 17 then (8, 0) else if 20 ≤ a ∧ a < 27 then (4, byN (a - 20)) else if a = 30 then (1, L) else (0, 0)
def r0 (a : Nat) (j : Int) : Nat := if 10 ≤ a ∧ a < 17 ∧ j = 1 then a + 10 else 0
def v0 (g : Int → Int) (a : Nat) : Int → Int := if a = 1 then lesF else if a = 2 then greF else if a = 3 then wgtF else if a = 4 then aheF else if a = 5 then witF else if 20 ≤ a ∧ a < 27 then byF (a - 20) else if a = 30 then g else fun _ => 0
def a0F (t1 t2 t3 t4 t5 b : Nat) (adK adV : Nat → Nat) (a : Nat) : Nat := if a = 1 then t1 else if a = 2 then t2 else if a = 3 then t3 else if a = 4 then t4 else if a = 5 then t5 else if 10 ≤ a ∧ a < 17 then adK (a - 10) else if 20 ≤ a ∧ a < 27 then adV (a - 20) else b
theorem k0_in {L a : Nat} (h : (k0 L a).1 ≠ 0) : a = 1 ∨ a = 2 ∨ a = 3 ∨ a = 4 ∨ a = 5 ∨ (10 ≤ a ∧ a < 17) ∨ (20 ≤ a ∧ a < 27) ∨ a = 30 := by
  unfold k0 at h
  repeat' split at h
  all_goals first | omega | exact absurd rfl h
theorem aO_T {γ : Gh} {K : Sk} {V : Mm} {a k n t : Nat} {U : State} {H : Heap} {ty : FieldType} {f : Nat → Value} {A : Nat → Prop} (hT : va_T ty t n f A U H) (hk : aTy k = ty) (ht : ad γ a = t) (hn : n < 2 ^ 31) (hf : ∀ j : Nat, j < n → f j = eV γ K V k a j) (h5 : ¬ 5 ≤ k) (ha : ¬ 100 ≤ a) : aO γ K V a U H k n := by
  obtain ⟨cell, c1, c2, c3, c4, c5, c6, c7⟩ := hT
  refine ⟨hn, cell, by rw [ht]; exact c1, by rw [hk]; exact c2, c3, c4, c5, fun j hj => by rw [c6 j hj, hf j hj], fun z => absurd z h5, fun z => absurd z ha⟩
def tmS (i : Nat) : Term := match i with
  | 0 => .string "GreenPath" 133
  | 1 => .string "GreenPath" 135
  | 2 => .string "GreenPath$Text" 51
  | 3 => .string "GreenPath$Text" 53
  | 4 => .string "GreenPath$Text" 55
  | 5 => .string "GreenPath$Text" 57
  | _ => .string "GreenPath$Text" 59
def lenS : List Nat := [3, 4, 1, 1, 3, 2, 3]
def bytS : List (List Int32) := [[97, 98, 109], [97, 98, 107, 116], [124], [38], [60, 61, 62], [43, 45], [42, 47, 37]]
theorem e_LESSER : ∀ j : Nat, j < 6 → Cond.eq (.elem (.static "GreenPath" "LESSER" "[I") (.int (Int32.ofNat j))) (.int (([0, 0, 0, 1, 1, 2] : List Int32).getD j 0)) ∈ flatC (Jvm.Cond.and given_1 narrow_1) := by decide +kernel
theorem f_LESSER : ∀ j : Nat, j < 6 → ([0, 0, 0, 1, 1, 2] : List Int32).getD j 0 = Int32.ofInt (lesF (j : Int)) := by decide +kernel
theorem e_GREATER : ∀ j : Nat, j < 6 → Cond.eq (.elem (.static "GreenPath" "GREATER" "[I") (.int (Int32.ofNat j))) (.int (([0, 1, 2, 1, 2, 2] : List Int32).getD j 0)) ∈ flatC (Jvm.Cond.and given_1 narrow_1) := by decide +kernel
theorem f_GREATER : ∀ j : Nat, j < 6 → ([0, 1, 2, 1, 2, 2] : List Int32).getD j 0 = Int32.ofInt (greF (j : Int)) := by decide +kernel
theorem e_WEIGHT : ∀ j : Nat, j < 3 → Cond.eq (.elem (.static "GreenPath" "WEIGHT" "[I") (.int (Int32.ofNat j))) (.int (([169, 13, 1] : List Int32).getD j 0)) ∈ flatC (Jvm.Cond.and given_1 narrow_1) := by decide +kernel
theorem f_WEIGHT : ∀ j : Nat, j < 3 → ([169, 13, 1] : List Int32).getD j 0 = Int32.ofInt (wgtF (j : Int)) := by decide +kernel
theorem e_AHEAD : ∀ j : Nat, j < 13 → Cond.eq (.elem (.static "GreenPath$Search" "AHEAD" "[I") (.int (Int32.ofNat j))) (.int (([0, 91, 169, 235, 290, 335, 371, 399, 420, 435, 445, 451, 454] : List Int32).getD j 0)) ∈ flatC (Jvm.Cond.and given_1 narrow_1) := by decide +kernel
theorem f_AHEAD : ∀ j : Nat, j < 13 → ([0, 91, 169, 235, 290, 335, 371, 399, 420, 435, 445, 451, 454] : List Int32).getD j 0 = Int32.ofInt (aheF (j : Int)) := by decide +kernel
theorem e_WITHOUT : ∀ j : Nat, j < 6 → Cond.eq (.elem (.static "GreenPath$Search" "WITHOUT" "[J") (.int (Int32.ofNat j))) (.long (([6148914691236517205, 3689348814741910323, 1085102592571150095, 71777214294589695, 281470681808895, 4294967295] : List Int64).getD j 0)) ∈ flatC (Jvm.Cond.and given_1 narrow_1) := by decide +kernel
theorem f_WITHOUT : ∀ j : Nat, j < 6 → ([6148914691236517205, 3689348814741910323, 1085102592571150095, 71777214294589695, 281470681808895, 4294967295] : List Int64).getD j 0 = Int64.ofInt (witF (j : Int)) := by decide +kernel
theorem s_ex : ∀ i : Nat, i < 7 → Cond.exactly (tmS i) "java/lang/String" ∈ flatC (Jvm.Cond.and given_1 narrow_1) := by decide +kernel
theorem s_co : ∀ i : Nat, i < 7 → Cond.eq (.field (tmS i) "java/lang/String" "coder" "B") (.int 0) ∈ flatC (Jvm.Cond.and given_1 narrow_1) := by decide +kernel
theorem s_ar : ∀ i : Nat, i < 7 → Cond.arrayOf (.field (tmS i) "java/lang/String" "value" "[B") .byte ∈ flatC (Jvm.Cond.and given_1 narrow_1) := by decide +kernel
theorem s_le : ∀ i : Nat, i < 7 → Cond.eq (.length (.field (tmS i) "java/lang/String" "value" "[B")) (.int (Int32.ofNat (lenS.getD i 0))) ∈ flatC (Jvm.Cond.and given_1 narrow_1) := by decide +kernel
theorem s_el : ∀ i : Nat, i < 7 → ∀ j : Nat, j < lenS.getD i 0 → Cond.eq (.elem (.field (tmS i) "java/lang/String" "value" "[B") (.int (Int32.ofNat j))) (.int ((bytS.getD i []).getD j 0)) ∈ flatC (Jvm.Cond.and given_1 narrow_1) := by decide +kernel
theorem s_ne : ∀ i : Nat, i < 7 → ∀ j : Nat, j < 7 → i ≠ j → Cond.not (Cond.eq (tmS i) (tmS j)) ∈ flatC (Jvm.Cond.and given_1 narrow_1) ∨ Cond.not (Cond.eq (tmS j) (tmS i)) ∈ flatC (Jvm.Cond.and given_1 narrow_1) := by decide +kernel
theorem s_N : ∀ i : Nat, i < 7 → lenS.getD i 0 < 2 ^ 31 ∧ lenS.getD i 0 = byN i ∧ 0 < byN i ∧ byN i < 100 := by decide +kernel
theorem s_by : ∀ i : Nat, i < 7 → ∀ j : Nat, j < byN i → (bytS.getD i []).getD j 0 = Int32.ofInt (byF i (j : Int)) := by decide +kernel
theorem s_128 : ∀ i : Nat, i < 7 → ∀ j : Nat, j < byN i → 0 ≤ byF i (j : Int) ∧ byF i (j : Int) < 128 := by decide +kernel
theorem s_R : ∀ i : Nat, i < 7 → ∃ tx, strL[i]? = some ((strL.getD i ("", 0, "", 0)).1, (strL.getD i ("", 0, "", 0)).2.1, tx, 10 + i) ∧ tmS i = .string (strL.getD i ("", 0, "", 0)).1 (strL.getD i ("", 0, "", 0)).2.1 := by
  intro i hi
  rcases (show i = 0 ∨ i = 1 ∨ i = 2 ∨ i = 3 ∨ i = 4 ∨ i = 5 ∨ i = 6 by omega) with z | z | z | z | z | z | z <;> subst z <;> exact ⟨_, rfl, rfl⟩
theorem cls_known {s : State} {args : Array Value} (hts : ∀ w ∈ tb, w.before args s = true) : ∃ q : Nat → ClassId × (Nat → Nat), ∀ (ci : Nat) (r : vw_C), vwCl[ci]? = some r → u_Kn s r.1 r.2.1 r.2.2 (q ci).1 (q ci).2 := by
  have h : ∀ ci : Nat, ∃ q : ClassId × (Nat → Nat), ∀ r : vw_C, vwCl[ci]? = some r → u_Kn s r.1 r.2.1 r.2.2 q.1 q.2 := by
    intro ci
    by_cases hc : ci < 13
    · rcases (show ci = 0 ∨ ci = 1 ∨ ci = 2 ∨ ci = 3 ∨ ci = 4 ∨ ci = 5 ∨ ci = 6 ∨ ci = 7 ∨ ci = 8 ∨ ci = 9 ∨ ci = 10 ∨ ci = 11 ∨ ci = 12 by omega) with z | z | z | z | z | z | z | z | z | z | z | z | z <;> subst z
      · obtain ⟨cC, iS, hk⟩ := u_known hts (clW 0 _ rfl).1 (hts _ kw_368)
        exact ⟨(cC, iS), fun r hr => by cases hr; exact hk⟩
      · obtain ⟨cC, iS, hk⟩ := u_known hts (clW 1 _ rfl).1 (hts _ kw_345)
        exact ⟨(cC, iS), fun r hr => by cases hr; exact hk⟩
      · obtain ⟨cC, iS, hk⟩ := u_known hts (clW 2 _ rfl).1 (hts _ kw_38)
        exact ⟨(cC, iS), fun r hr => by cases hr; exact hk⟩
      · obtain ⟨cC, iS, hk⟩ := u_known hts (clW 3 _ rfl).1 (hts _ kw_379)
        exact ⟨(cC, iS), fun r hr => by cases hr; exact hk⟩
      · obtain ⟨cC, iS, hk⟩ := u_known hts (clW 4 _ rfl).1 (hts _ kw_401)
        exact ⟨(cC, iS), fun r hr => by cases hr; exact hk⟩
      · obtain ⟨cC, iS, hk⟩ := u_known hts (clW 5 _ rfl).1 (hts _ kw_48)
        exact ⟨(cC, iS), fun r hr => by cases hr; exact hk⟩
      · obtain ⟨cC, iS, hk⟩ := u_known hts (clW 6 _ rfl).1 (hts _ kw_32)
        exact ⟨(cC, iS), fun r hr => by cases hr; exact hk⟩
      · obtain ⟨cC, iS, hk⟩ := u_known hts (clW 7 _ rfl).1 (hts _ kw_357)
        exact ⟨(cC, iS), fun r hr => by cases hr; exact hk⟩
      · obtain ⟨cC, iS, hk⟩ := u_known hts (clW 8 _ rfl).1 (hts _ kw_461)
        exact ⟨(cC, iS), fun r hr => by cases hr; exact hk⟩
      · obtain ⟨cC, iS, hk⟩ := u_known hts (clW 9 _ rfl).1 (hts _ kw_69)
        exact ⟨(cC, iS), fun r hr => by cases hr; exact hk⟩
      · obtain ⟨cC, iS, hk⟩ := u_known hts (clW 10 _ rfl).1 (hts _ kw_390)
        exact ⟨(cC, iS), fun r hr => by cases hr; exact hk⟩
      · obtain ⟨cC, iS, hk⟩ := u_known hts (clW 11 _ rfl).1 (hts _ kw_24)
        exact ⟨(cC, iS), fun r hr => by cases hr; exact hk⟩
      · obtain ⟨cC, iS, hk⟩ := u_known hts (clW 12 _ rfl).1 (hts _ kw_987)
        exact ⟨(cC, iS), fun r hr => by cases hr; exact hk⟩
    · refine ⟨(0, fun _ => 0), fun r hr => ?_⟩
      have := (List.getElem?_eq_some_iff.mp hr).1
      exact absurd this (by simp; omega)
  obtain ⟨q, hq⟩ := Classical.axiomOfChoice h
  exact ⟨q, hq⟩
