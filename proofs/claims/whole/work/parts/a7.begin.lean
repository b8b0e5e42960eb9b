/-! ===== the law's start: the picture of the first state ===== -/
theorem room_le {s : State} {pl : Platform} {r r' : Room} (h : s.hasRoom pl r = true) (h1 : r'.frames ≤ r.frames) (h2 : r'.cells ≤ r.cells) (h3 : r'.slots ≤ r.slots) (h4 : r'.locals ≤ r.locals) : s.hasRoom pl r' = true := by
  simp only [State.hasRoom, Bool.and_eq_true, decide_eq_true_eq] at h ⊢
  obtain ⟨⟨⟨⟨a0, a1, a2, a3, a4, a5⟩, a7⟩, a8⟩, a9⟩ := h
  exact ⟨⟨⟨⟨by omega, by omega, by omega, by omega, by omega, a5⟩, by omega⟩, by omega⟩, a9⟩
/-- what the Statement gives: the words that hold at the start -/
def Gv (args : Array Value) (s : State) : Prop := (∀ w ∈ flatC (Jvm.Cond.and given_1 narrow_1), w.before args s = true) ∧ (∀ w ∈ lw_tbl, w.before args s = true)
theorem Gv.tab {args : Array Value} {s : State} {w : Cond} (h : Gv args s) (i : Nat) (hi : tables_1[i]? = some w) : w.before args s = true := h.2 _ (List.mem_append_right _ (List.mem_of_getElem? hi))
theorem Gv.tbw {args : Array Value} {s : State} (h : Gv args s) : ∀ w ∈ tb, w.before args s = true := fun w hw => h.2 w (List.mem_filter.mp hw).1
/-- cells that are there at the start -/
abbrev nA (s : State) : Nat → Prop := fun x => s.heap.size ≤ x
theorem nA_of {s : State} : ∀ a : Nat, a < s.heap.size → ¬ nA s a := fun _ h => Nat.not_le.mpr h
theorem ar_LESSER {args : Array Value} {s : State} (h : Gv args s) : ∃ t : Nat, va_T .int t 6 (fun j => .int (([0, 0, 0, 1, 1, 2] : List Int32).getD j 0)) (nA s) s s.heap ∧ va_Z "GreenPath" "LESSER" "[I" (.ref t) (nA s) s s.heap := by
  obtain ⟨t, h1, h2⟩ := va_Tof (args := args) (s := s) (tm := .static "GreenPath" "LESSER" "[I") (ty := .int) (N := 6) (f := fun j => .int (([0, 0, 0, 1, 1, 2] : List Int32).getD j 0)) (A := nA s) (by decide) (h.1 _ (by decide +kernel)) (va_eqt (z := Int32.ofNat 6) (h.1 _ (by decide +kernel))) (fun j hj => va_eqt (h.1 _ (e_LESSER j hj))) nA_of
  exact ⟨t, h2, va_Zref (h.tab 78 (by decide +kernel)) (h.tbw _ kw_1) h1 nA_of⟩
theorem ar_GREATER {args : Array Value} {s : State} (h : Gv args s) : ∃ t : Nat, va_T .int t 6 (fun j => .int (([0, 1, 2, 1, 2, 2] : List Int32).getD j 0)) (nA s) s s.heap ∧ va_Z "GreenPath" "GREATER" "[I" (.ref t) (nA s) s s.heap := by
  obtain ⟨t, h1, h2⟩ := va_Tof (args := args) (s := s) (tm := .static "GreenPath" "GREATER" "[I") (ty := .int) (N := 6) (f := fun j => .int (([0, 1, 2, 1, 2, 2] : List Int32).getD j 0)) (A := nA s) (by decide) (h.1 _ (by decide +kernel)) (va_eqt (z := Int32.ofNat 6) (h.1 _ (by decide +kernel))) (fun j hj => va_eqt (h.1 _ (e_GREATER j hj))) nA_of
  exact ⟨t, h2, va_Zref (h.tab 80 (by decide +kernel)) (h.tbw _ kw_1) h1 nA_of⟩
theorem ar_WEIGHT {args : Array Value} {s : State} (h : Gv args s) : ∃ t : Nat, va_T .int t 3 (fun j => .int (([169, 13, 1] : List Int32).getD j 0)) (nA s) s s.heap ∧ va_Z "GreenPath" "WEIGHT" "[I" (.ref t) (nA s) s s.heap := by
  obtain ⟨t, h1, h2⟩ := va_Tof (args := args) (s := s) (tm := .static "GreenPath" "WEIGHT" "[I") (ty := .int) (N := 3) (f := fun j => .int (([169, 13, 1] : List Int32).getD j 0)) (A := nA s) (by decide) (h.1 _ (by decide +kernel)) (va_eqt (z := Int32.ofNat 3) (h.1 _ (by decide +kernel))) (fun j hj => va_eqt (h.1 _ (e_WEIGHT j hj))) nA_of
  exact ⟨t, h2, va_Zref (h.tab 176 (by decide +kernel)) (h.tbw _ kw_1) h1 nA_of⟩
theorem ar_AHEAD {args : Array Value} {s : State} (h : Gv args s) : ∃ t : Nat, va_T .int t 13 (fun j => .int (([0, 91, 169, 235, 290, 335, 371, 399, 420, 435, 445, 451, 454] : List Int32).getD j 0)) (nA s) s s.heap ∧ va_Z "GreenPath$Search" "AHEAD" "[I" (.ref t) (nA s) s s.heap := by
  obtain ⟨t, h1, h2⟩ := va_Tof (args := args) (s := s) (tm := .static "GreenPath$Search" "AHEAD" "[I") (ty := .int) (N := 13) (f := fun j => .int (([0, 91, 169, 235, 290, 335, 371, 399, 420, 435, 445, 451, 454] : List Int32).getD j 0)) (A := nA s) (by decide) (h.1 _ (by decide +kernel)) (va_eqt (z := Int32.ofNat 13) (h.1 _ (by decide +kernel))) (fun j hj => va_eqt (h.1 _ (e_AHEAD j hj))) nA_of
  exact ⟨t, h2, va_Zref (h.tab 664 (by decide +kernel)) (h.tbw _ kw_2) h1 nA_of⟩
theorem ar_WITHOUT {args : Array Value} {s : State} (h : Gv args s) : ∃ t : Nat, va_T .long t 6 (fun j => .long (([6148914691236517205, 3689348814741910323, 1085102592571150095, 71777214294589695, 281470681808895, 4294967295] : List Int64).getD j 0)) (nA s) s s.heap ∧ va_Z "GreenPath$Search" "WITHOUT" "[J" (.ref t) (nA s) s s.heap := by
  obtain ⟨t, h1, h2⟩ := va_Tof (args := args) (s := s) (tm := .static "GreenPath$Search" "WITHOUT" "[J") (ty := .long) (N := 6) (f := fun j => .long (([6148914691236517205, 3689348814741910323, 1085102592571150095, 71777214294589695, 281470681808895, 4294967295] : List Int64).getD j 0)) (A := nA s) (by decide) (h.1 _ (by decide +kernel)) (va_eqt (z := Int32.ofNat 6) (h.1 _ (by decide +kernel))) (fun j hj => va_eqtl (h.1 _ (e_WITHOUT j hj))) nA_of
  exact ⟨t, h2, va_Zref (h.tab 776 (by decide +kernel)) (h.tbw _ kw_2) h1 nA_of⟩
theorem ar_CS {args : Array Value} {s : State} (h : Gv args s) : va_Z "java/lang/String" "COMPACT_STRINGS" "Z" (.int 1) (nA s) s s.heap :=
  va_Zof (h.tab 527 (by decide +kernel)) (h.tbw _ kw_16) (va_eqi (h.1 _ (by decide +kernel))) nA_of
theorem ar_str {args : Array Value} {s : State} (h : Gv args s) : ∃ adK adV : Nat → Nat, vk_S 7 lenS bytS adK adV (nA s) s s.heap ∧ ∀ i : Nat, i < 7 → (tmS i).eval args s none [] s = some (.ref (adK i)) :=
  vk_Sof (fun i hi => (s_N i hi).1) (fun i hi => h.1 _ (s_ex i hi)) (fun i hi => h.1 _ (s_co i hi)) (fun i hi => h.1 _ (s_ar i hi)) (fun i hi => h.1 _ (s_le i hi)) (fun i hi j hj => h.1 _ (s_el i hi j hj)) (fun i j hi hj hne => (s_ne i hi j hj hne).imp (fun z => h.1 _ z) (fun z => h.1 _ z)) nA_of
/-- the picture's names -/
def g0 (t1 t2 t3 t4 t5 b : Nat) (adK adV : Nat → Nat) (q : Nat → ClassId × (Nat → Nat)) (n : Nat) : Gh := (a0F t1 t2 t3 t4 t5 b adK adV, (fun ci => (q ci).1, fun ci => (q ci).2), n)
theorem k0_str {L i : Nat} (hi : i < 7) : k0 L (10 + i) = (8, 0) ∧ k0 L (20 + i) = (4, byN i) := by
  rcases (show i = 0 ∨ i = 1 ∨ i = 2 ∨ i = 3 ∨ i = 4 ∨ i = 5 ∨ i = 6 by omega) with z | z | z | z | z | z | z <;> subst z <;> exact ⟨rfl, rfl⟩
theorem a0_str {t1 t2 t3 t4 t5 b : Nat} {adK adV : Nat → Nat} {i : Nat} (hi : i < 7) : a0F t1 t2 t3 t4 t5 b adK adV (10 + i) = adK i ∧ a0F t1 t2 t3 t4 t5 b adK adV (20 + i) = adV i := by
  rcases (show i = 0 ∨ i = 1 ∨ i = 2 ∨ i = 3 ∨ i = 4 ∨ i = 5 ∨ i = 6 by omega) with z | z | z | z | z | z | z <;> subst z <;> exact ⟨rfl, rfl⟩
theorem v0_str {g : Int → Int} {i : Nat} (hi : i < 7) : v0 g (10 + i) = (fun _ => 0) ∧ v0 g (20 + i) = byF i := by
  rcases (show i = 0 ∨ i = 1 ∨ i = 2 ∨ i = 3 ∨ i = 4 ∨ i = 5 ∨ i = 6 by omega) with z | z | z | z | z | z | z <;> subst z <;> exact ⟨rfl, rfl⟩
theorem r0_str {i : Nat} (hi : i < 7) : r0 (10 + i) 1 = 20 + i := by
  rcases (show i = 0 ∨ i = 1 ∨ i = 2 ∨ i = 3 ∨ i = 4 ∨ i = 5 ∨ i = 6 by omega) with z | z | z | z | z | z | z <;> subst z <;> rfl
theorem cO_at {γ : Gh} {K : Sk} {V : Mm} {a : Nat} {U : State} {H : Heap} {k n : Nat} (hk : K.1 a = (k, n)) (h1 : 1 ≤ k) (h7 : k ≤ 7) (h : aO γ K V a U H k n) : cO γ K V a U H := by
  unfold cO
  rw [hk]
  exact ⟨fun _ _ => h, fun z => absurd z (by show ¬ 10 ≤ k; omega), fun z => absurd z (by show ¬ k = 8; omega)⟩
theorem cO_st {γ : Gh} {K : Sk} {V : Mm} {a : Nat} {U : State} {H : Heap} (hk : (K.1 a).1 = 8) (h : tO γ K V a U H) : cO γ K V a U H := by
  unfold cO
  rw [hk]
  exact ⟨fun _ z => absurd z (by decide), fun z => absurd z (by decide), fun _ => h⟩
theorem cO_no {γ : Gh} {K : Sk} {V : Mm} {a : Nat} {U : State} {H : Heap} (hk : (K.1 a).1 = 0) : cO γ K V a U H := by
  unfold cO
  rw [hk]
  exact ⟨fun z => absurd z (by decide), fun z => absurd z (by decide), fun z => absurd z (by decide)⟩
/-- the picture is true of the first state -/
theorem hp_start {s : State} {t1 t2 t3 t4 t5 b L : Nat} {adK adV : Nat → Nat} {q : Nat → ClassId × (Nat → Nat)} {xs : Nat → Int32}
    (hL : L ≤ 384) (hX : va_X b L xs s s.heap) (hb : b < s.heap.size)
    (h1 : va_T .int t1 6 (fun j => .int (([0, 0, 0, 1, 1, 2] : List Int32).getD j 0)) (nA s) s s.heap) (z1 : va_Z "GreenPath" "LESSER" "[I" (.ref t1) (nA s) s s.heap)
    (h2 : va_T .int t2 6 (fun j => .int (([0, 1, 2, 1, 2, 2] : List Int32).getD j 0)) (nA s) s s.heap) (z2 : va_Z "GreenPath" "GREATER" "[I" (.ref t2) (nA s) s s.heap)
    (h3 : va_T .int t3 3 (fun j => .int (([169, 13, 1] : List Int32).getD j 0)) (nA s) s s.heap) (z3 : va_Z "GreenPath" "WEIGHT" "[I" (.ref t3) (nA s) s s.heap)
    (h4 : va_T .int t4 13 (fun j => .int (([0, 91, 169, 235, 290, 335, 371, 399, 420, 435, 445, 451, 454] : List Int32).getD j 0)) (nA s) s s.heap) (z4 : va_Z "GreenPath$Search" "AHEAD" "[I" (.ref t4) (nA s) s s.heap)
    (h5 : va_T .long t5 6 (fun j => .long (([6148914691236517205, 3689348814741910323, 1085102592571150095, 71777214294589695, 281470681808895, 4294967295] : List Int64).getD j 0)) (nA s) s s.heap) (z5 : va_Z "GreenPath$Search" "WITHOUT" "[J" (.ref t5) (nA s) s s.heap)
    (hC : va_Z "java/lang/String" "COMPACT_STRINGS" "Z" (.int 1) (nA s) s s.heap) (hS : vk_S 7 lenS bytS adK adV (nA s) s s.heap) :
    Hp (g0 t1 t2 t3 t4 t5 b adK adV q s.heap.size) (k0 L, r0, 100) (v0 fun j => (xs j.toNat).toInt) s s.heap := by
  have hlt : ∀ {ty : FieldType} {t N : Nat} {f : Nat → Value}, va_T ty t N f (nA s) s s.heap → t < s.heap.size := fun ⟨_, h, _⟩ => (Array.getElem?_eq_some_iff.mp h).1
  refine ⟨fun a => ?_, rfl, Nat.le_refl _, fun a ha => ?_, fun a ha hk => ?_, rfl, ?_⟩
  · by_cases hk : (k0 L a).1 = 0
    · exact cO_no hk
    · rcases k0_in hk with z | z | z | z | z | z | z | z
      · subst z
        exact cO_at (k := 1) (n := 6) rfl (by decide) (by decide) (aO_T h1 rfl rfl (by decide) (fun j hj => congrArg Value.int (f_LESSER j hj)) (by decide) (by decide))
      · subst z
        exact cO_at (k := 1) (n := 6) rfl (by decide) (by decide) (aO_T h2 rfl rfl (by decide) (fun j hj => congrArg Value.int (f_GREATER j hj)) (by decide) (by decide))
      · subst z
        exact cO_at (k := 1) (n := 3) rfl (by decide) (by decide) (aO_T h3 rfl rfl (by decide) (fun j hj => congrArg Value.int (f_WEIGHT j hj)) (by decide) (by decide))
      · subst z
        exact cO_at (k := 1) (n := 13) rfl (by decide) (by decide) (aO_T h4 rfl rfl (by decide) (fun j hj => congrArg Value.int (f_AHEAD j hj)) (by decide) (by decide))
      · subst z
        exact cO_at (k := 2) (n := 6) rfl (by decide) (by decide) (aO_T h5 rfl rfl (by decide) (fun j hj => congrArg Value.long (f_WITHOUT j hj)) (by decide) (by decide))
      · obtain ⟨i, rfl⟩ : ∃ i, a = 10 + i := ⟨a - 10, by omega⟩
        have hi : i < 7 := by omega
        obtain ⟨s1, s2, s3, s4⟩ := hS.1 i hi
        have ea : ad (g0 t1 t2 t3 t4 t5 b adK adV q s.heap.size) (10 + i) = adK i := by
          unfold ad
          rw [if_pos (by omega)]
          exact (a0_str hi).1
        refine cO_st (by show (k0 L (10 + i)).1 = 8; rw [(k0_str hi).1]) ⟨?_, ?_, ?_⟩
        · rw [ea]
          exact s1.narrow fun _ z => z.elim
        · rw [ea, (v0_str hi).1]
          exact s2.narrow fun _ z => z.elim
        · rw [ea]
          show va_OF _ _ _ (cR _ (r0 (10 + i) 1)) _ _ _ _
          rw [r0_str hi]
          unfold cR
          rw [if_neg (by omega)]
          have eb : ad (g0 t1 t2 t3 t4 t5 b adK adV q s.heap.size) (20 + i) = adV i := by
            unfold ad
            rw [if_pos (by omega)]
            exact (a0_str hi).2
          rw [eb]
          exact s3.narrow fun _ z => z.elim
      · obtain ⟨i, rfl⟩ : ∃ i, a = 20 + i := ⟨a - 20, by omega⟩
        have hi : i < 7 := by omega
        obtain ⟨s1, s2, s3, s4⟩ := hS.1 i hi
        rw [(s_N i hi).2.1] at s4
        have eb : ad (g0 t1 t2 t3 t4 t5 b adK adV q s.heap.size) (20 + i) = adV i := by
          unfold ad
          rw [if_pos (by omega)]
          exact (a0_str hi).2
        refine cO_at (k := 4) (n := byN i) (k0_str hi).2 (by decide) (by decide) (aO_T s4 rfl eb (by have := (s_N i hi).2.2.2; omega) (fun j hj => ?_) (by decide) (by omega))
        show Value.int _ = Value.int (Int32.ofInt (v0 _ (20 + i) j))
        rw [(v0_str hi).2, s_by i hi j hj]
      · subst z
        obtain ⟨scr, c1, c2, c3, c4, c5⟩ := hX
        refine cO_at (k := 1) (n := L) rfl (by decide) (by decide) ⟨by omega, scr, c1, c2, c3, by omega, by rw [c4], fun j hj => ?_, fun z => absurd z (by decide), fun z => absurd z (by decide)⟩
        rw [c5 j hj]
        show some (Value.int (xs j)) = some (Value.int (Int32.ofInt (xs ((j : Int).toNat)).toInt))
        rw [Int32.ofInt_toInt]
        rfl
  · show (k0 L a).1 = 0
    have ha' : 100 ≤ a := ha
    by_cases hk : (k0 L a).1 = 0
    · exact hk
    · have := k0_in hk
      omega
  · show a0F t1 t2 t3 t4 t5 b adK adV a < s.heap.size
    rcases k0_in hk with z | z | z | z | z | z | z | z
    · subst z
      exact hlt h1
    · subst z
      exact hlt h2
    · subst z
      exact hlt h3
    · subst z
      exact hlt h4
    · subst z
      exact hlt h5
    · obtain ⟨i, rfl⟩ : ∃ i, a = 10 + i := ⟨a - 10, by omega⟩
      have hi : i < 7 := by omega
      rw [(a0_str hi).1]
      obtain ⟨cell, c1, -⟩ := (hS.1 i hi).1
      exact (Array.getElem?_eq_some_iff.mp c1).1
    · obtain ⟨i, rfl⟩ : ∃ i, a = 20 + i := ⟨a - 20, by omega⟩
      have hi : i < 7 := by omega
      rw [(a0_str hi).2]
      exact hlt (hS.1 i hi).2.2.2
    · subst z
      exact hb
  · intro x hx
    simp only [stL, List.mem_cons, List.not_mem_nil, or_false] at hx
    rcases hx with z | z | z | z | z | z <;> subst z
    · exact z1
    · exact z2
    · exact z3
    · exact z4
    · exact z5
    · exact hC
theorem wl_start {args : Array Value} {s : State} {t1 t2 t3 t4 t5 b : Nat} {adK adV : Nat → Nat} {q : Nat → ClassId × (Nat → Nat)} (h : Gv args s) (hk : ∀ i : Nat, i < 7 → (tmS i).eval args s none [] s = some (.ref (adK i))) (hq : ∀ (ci : Nat) (r : vw_C), vwCl[ci]? = some r → u_Kn s r.1 r.2.1 r.2.2 (q ci).1 (q ci).2) :
    Wl (g0 t1 t2 t3 t4 t5 b adK adV q s.heap.size) s := by
  refine ⟨?_, ⟨hq, fun k q hq => by cases hq⟩, fun w hw => ?_, va_AO.of (h.tab 44 (by decide +kernel)), va_AO.of (h.tab 46 (by decide +kernel)), va_AO.of (h.tab 287 (by decide +kernel)), fun C T hc => va_Nc.of (h.1 _ (List.mem_append_right _ hc))⟩
  · intro x hx
    simp only [strL, List.mem_cons, List.not_mem_nil, or_false] at hx
    rcases hx with z | z | z | z | z | z | z <;> subst z
    · exact vk_R.of (h.tab 462 (by decide +kernel)) (hk 0 (by decide))
    · exact vk_R.of (h.tab 463 (by decide +kernel)) (hk 1 (by decide))
    · exact vk_R.of (h.tab 605 (by decide +kernel)) (hk 2 (by decide))
    · exact vk_R.of (h.tab 606 (by decide +kernel)) (hk 3 (by decide))
    · exact vk_R.of (h.tab 607 (by decide +kernel)) (hk 4 (by decide))
    · exact vk_R.of (h.tab 608 (by decide +kernel)) (hk 5 (by decide))
    · exact vk_R.of (h.tab 609 (by decide +kernel)) (hk 6 (by decide))
  · obtain ⟨w1, w2⟩ := List.mem_filter.mp hw
    have hb := h.2 w (List.mem_append_right _ w1)
    cases w <;> first | exact va_Nw.of rfl hb | (simp [isNw] at w2)
theorem ss_start {L : Nat} {g : Int → Int} : SS (k0 L, r0, 100) (v0 g) := by
  intro k hk
  refine ⟨⟨by show (k0 L (10 + k)).1 = 8; rw [(k0_str hk).1], by rw [(v0_str hk).1], r0_str hk, (k0_str hk).2, (s_N k hk).2.2.1, (s_N k hk).2.2.2, fun i h0 h1 => ?_⟩, (v0_str hk).2⟩
  rw [(v0_str hk).2]
  obtain ⟨j, rfl⟩ := Int.eq_ofNat_of_zero_le h0
  exact s_128 k hk j (by omega)
theorem fr_start {L : Nat} : Fr (k0 L, r0, 100) := by
  intro a ha
  show (k0 L a).1 = 0
  have ha' : 100 ≤ a := ha
  by_cases hk : (k0 L a).1 = 0
  · exact hk
  · have := k0_in hk
    omega
