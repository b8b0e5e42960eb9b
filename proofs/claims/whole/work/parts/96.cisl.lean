/-! ===== constructors ===== -/
/-- what has been made since K0, V0: cells from a on; N: the next number; kinds, references, rows of 0, numbers -/
def Bl (K0 : Sk) (V0 : Mm) (a N : Nat) (S : List (Nat × Nat × Nat)) (R : List (Nat × Int × Nat)) (Z : List Nat) (F : List (Nat × Int × Int)) (K : Sk) (V : Mm) : Prop := K.2.2 = N ∧ (∀ q ∈ S, K.1 q.1 = q.2) ∧ (∀ q ∈ R, K.2.1 q.1 q.2.1 = q.2.2) ∧ (∀ q ∈ Z, ∀ j, V q j = 0) ∧ (∀ q ∈ F, V q.1 q.2.1 = q.2.2) ∧ (∀ c, c < a → K.1 c = K0.1 c ∧ (∀ j, K.2.1 c j = K0.2.1 c j) ∧ V c = V0 c) ∧ ∀ c, N ≤ c → K.1 c = K0.1 c
section BL
variable {K0 : Sk} {V0 : Mm} {a N : Nat} {S : List (Nat × Nat × Nat)} {R : List (Nat × Int × Nat)} {Z : List Nat} {F : List (Nat × Int × Int)} {K : Sk} {V : Mm}
theorem Bl.new {k n : Nat} (h : Bl K0 V0 a N S R Z F K V) (haN : a ≤ N) (hS : ∀ q ∈ S, q.1 ≠ N) (hR : ∀ q ∈ R, q.1 ≠ N) (hZ : ∀ q ∈ Z, q ≠ N) (hF : ∀ q ∈ F, q.1 ≠ N) : Bl K0 V0 a (N + 1) ((N, k, n) :: S) R (N :: Z) F (nwK K k n) (nwV K V) := by
  obtain ⟨a1, a2, a3, a4, a5, a6, a7⟩ := h
  refine ⟨by show K.2.2 + 1 = N + 1; rw [a1], fun q hq => ?_, fun q hq => ?_, fun q hq j => ?_, fun q hq => ?_, fun c hc => ?_, fun c hc => ?_⟩
  · rcases List.mem_cons.mp hq with z | z
    · rw [z]; show (nwK K k n).1 N = (k, n); rw [← a1]; exact nwK_new
    · rw [nwK_old (by rw [a1]; exact hS q z)]; exact a2 q z
  · rw [nwK_ref (by rw [a1]; exact hR q hq)]; exact a3 q hq
  · rcases List.mem_cons.mp hq with z | z
    · rw [z]; unfold nwV; rw [a1, setr_self]
    · rw [nwV_old (by rw [a1]; exact hZ q z)]; exact a4 q z j
  · rw [nwV_old (by rw [a1]; exact hF q hq)]; exact a5 q hq
  · obtain ⟨x1, x2, x3⟩ := a6 c hc
    exact ⟨by rw [nwK_old (by omega)]; exact x1, fun j => by rw [nwK_ref (by omega)]; exact x2 j, by rw [nwV_old (by omega)]; exact x3⟩
  · rw [nwK_old (by omega)]; exact a7 c (by omega)
theorem Bl.new2 {k n : Nat} (h : Bl K0 V0 a N S R Z F K V) (haN : a ≤ N) (hS : ∀ q ∈ S, q.1 ≠ N) (hR : ∀ q ∈ R, q.1 ≠ N) (hZ : ∀ q ∈ Z, q ≠ N) (hF : ∀ q ∈ F, q.1 ≠ N) : Bl K0 V0 a (N + 1) ((N, k, n) :: S) ((N, 0, 0) :: (N, 1, 0) :: R) (N :: Z) F (nwK K k n) (nwV K V) := by
  have h1 := h.1
  obtain ⟨a1, a2, a3, a4⟩ := h.new (k := k) (n := n) haN hS hR hZ hF
  have e : ∀ j, (nwK K k n).2.1 N j = 0 := fun j => by rw [← h1]; simp [nwK, setr]
  refine ⟨a1, a2, fun q hq => ?_, a4⟩
  rcases List.mem_cons.mp hq with z | z
  · rw [z]; exact e 0
  · rcases List.mem_cons.mp z with y | y
    · rw [y]; exact e 1
    · exact a3 q y
theorem Bl.put {o : Nat} {f : Int} {x : Nat} (h : Bl K0 V0 a N S R Z F K V) (hao : a ≤ o) (hR : ∀ q ∈ R, ¬ (q.1 = o ∧ q.2.1 = f)) : Bl K0 V0 a N S ((o, f, x) :: R) Z F (wrR K o f x) V := by
  obtain ⟨a1, a2, a3, a4, a5, a6, a7⟩ := h
  refine ⟨a1, a2, fun q hq => ?_, a4, a5, fun c hc => ?_, a7⟩
  · rcases List.mem_cons.mp hq with z | z
    · rw [z]; exact wrR_self
    · rw [wrR_ne (hR q z)]; exact a3 q z
  · obtain ⟨x1, x2, x3⟩ := a6 c hc
    exact ⟨x1, fun j => by rw [wrR_ne (fun q => by omega)]; exact x2 j, x3⟩
theorem Bl.zf {c : Nat} {i : Int} (h : Bl K0 V0 a N S R Z F K V) (hc : c ∈ Z) : Bl K0 V0 a N S R Z ((c, i, 0) :: F) K V := by
  obtain ⟨a1, a2, a3, a4, a5, a6, a7⟩ := h
  refine ⟨a1, a2, a3, a4, fun q hq => ?_, a6, a7⟩
  rcases List.mem_cons.mp hq with z | z
  · rw [z]; exact a4 c hc i
  · exact a5 q z
theorem Bl.wr {c : Nat} {i x : Int} {Z' : List Nat} {F' : List (Nat × Int × Int)} (h : Bl K0 V0 a N S R Z F K V) (hac : a ≤ c) (hZ : ∀ q ∈ Z', q ∈ Z ∧ q ≠ c) (hF : ∀ q ∈ F', q ∈ F ∧ ¬ (q.1 = c ∧ q.2.1 = i)) : Bl K0 V0 a N S R Z' ((c, i, x) :: F') K (wr V c i x) := by
  obtain ⟨a1, a2, a3, a4, a5, a6, a7⟩ := h
  refine ⟨a1, a2, a3, fun q hq j => ?_, fun q hq => ?_, fun d hd => ?_, a7⟩
  · rw [wr_off (hZ q hq).2]; exact a4 q (hZ q hq).1 j
  · rcases List.mem_cons.mp hq with z | z
    · rw [z]; exact wr_self
    · rw [wr_ne (hF q z).2]; exact a5 q (hF q z).1
  · obtain ⟨x1, x2, x3⟩ := a6 d hd
    exact ⟨x1, x2, by rw [wr_off (by omega)]; exact x3⟩
theorem Bl.lw {c : Nat} {kd p m : Int} {Z' : List Nat} (h : Bl K0 V0 a N S R Z F K V) (hac : a ≤ c) (hZ : ∀ q ∈ Z', q ∈ Z ∧ q ≠ c) (hF : ∀ q ∈ F, q.1 ≠ c) : Bl K0 V0 a N S R Z' ((c, 0, kd) :: (c, 1, p) :: (c, 2, m) :: (c, 3, lesF p) :: (c, 4, greF p) :: F) K (lwF V c kd p m) := by
  obtain ⟨a1, a2, a3, a4, a5, a6, a7⟩ := h
  obtain ⟨x0, x1, x2, x3, x4⟩ := lwF_at (V := V) (c := c) (kd := kd) (p := p) (m := m)
  refine ⟨a1, a2, a3, fun q hq j => ?_, fun q hq => ?_, fun d hd => ?_, a7⟩
  · rw [lwF_off (hZ q hq).2]; exact a4 q (hZ q hq).1 j
  · rcases List.mem_cons.mp hq with z | hq
    · rw [z]; exact x0
    rcases List.mem_cons.mp hq with z | hq
    · rw [z]; exact x1
    rcases List.mem_cons.mp hq with z | hq
    · rw [z]; exact x2
    rcases List.mem_cons.mp hq with z | hq
    · rw [z]; exact x3
    rcases List.mem_cons.mp hq with z | hq
    · rw [z]; exact x4
    rw [lwF_off (hF q hq)]; exact a5 q hq
  · obtain ⟨y1, y2, y3⟩ := a6 d hd
    exact ⟨y1, y2, by rw [lwF_off (by omega)]; exact y3⟩
theorem Bl.sv (h : Bl K0 V0 a N S R Z F K V) (ha : 5 < a) (hV : SV V0) : SV V := by
  obtain ⟨_, _, _, _, _, a6, _⟩ := h
  unfold SV
  rw [(a6 1 (by omega)).2.2, (a6 2 (by omega)).2.2, (a6 3 (by omega)).2.2]
  exact hV
/-- what a call made behind what stood -/
theorem Bl.join {K1 : Sk} {V1 : Mm} {b M : Nat} {S' S1 : List (Nat × Nat × Nat)} {R' R1 : List (Nat × Int × Nat)} {Z' Z1 : List Nat} {F' F1 : List (Nat × Int × Int)} (h : Bl K0 V0 a N S R Z F K1 V1) (g : Bl K1 V1 b M S' R' Z' F' K V) (hab : a ≤ b) (hNM : N ≤ M) (h1 : ∀ q ∈ S1, q ∈ S ∧ q.1 < b) (h2 : ∀ q ∈ R1, q ∈ R ∧ q.1 < b) (h3 : ∀ q ∈ Z1, q ∈ Z ∧ q < b) (h4 : ∀ q ∈ F1, q ∈ F ∧ q.1 < b) : Bl K0 V0 a M (S' ++ S1) (R' ++ R1) (Z' ++ Z1) (F' ++ F1) K V := by
  obtain ⟨a1, a2, a3, a4, a5, a6, a7⟩ := h
  obtain ⟨b1, b2, b3, b4, b5, b6, b7⟩ := g
  refine ⟨b1, fun q hq => ?_, fun q hq => ?_, fun q hq j => ?_, fun q hq => ?_, fun c hc => ?_, fun c hc => ?_⟩
  · rcases List.mem_append.mp hq with z | z
    · exact b2 q z
    · rw [(b6 q.1 (h1 q z).2).1]; exact a2 q (h1 q z).1
  · rcases List.mem_append.mp hq with z | z
    · exact b3 q z
    · rw [(b6 q.1 (h2 q z).2).2.1]; exact a3 q (h2 q z).1
  · rcases List.mem_append.mp hq with z | z
    · exact b4 q z j
    · rw [(b6 q (h3 q z).2).2.2]; exact a4 q (h3 q z).1 j
  · rcases List.mem_append.mp hq with z | z
    · exact b5 q z
    · rw [(b6 q.1 (h4 q z).2).2.2]; exact a5 q (h4 q z).1
  · obtain ⟨x1, x2, x3⟩ := a6 c hc
    obtain ⟨y1, y2, y3⟩ := b6 c (by omega)
    exact ⟨by rw [y1]; exact x1, fun j => by rw [y2 j]; exact x2 j, by rw [y3]; exact x3⟩
  · rw [b7 c hc]; exact a7 c (by omega)
end BL
theorem ev_anewarrayL {γ : Gh} {X : MX} {d mc ms pc : Nat} {ls st : List PV} {K : Sk} {V : Mm} {Q : Option PV → Sk → Mm → Prop} {k N index : Nat} {n : Int} {C : String} (hd : decode X.2.1 pc = .ok (.anewarray index, 3)) (hk5 : 5 ≤ k) (hk7 : k ≤ 7) (hty : aTy k = .object C) (w1 : Cond.classLink X.1.cls index C ∈ tb) (w2 : ∀ U : State, Wl γ U → va_AO C U) (hn : n = (N : Int)) (hN : N ≤ 1000000) (kk : Ev γ X d mc ms (pc + 3) ls (vR K.2.2 :: st) (nwK K k N) (nwV K V) Q) : Ev γ X d (mc + 1) (ms + N) pc ls (vI n :: st) K V Q := by
  subst hn
  have e : ((N : Int)).toNat = N := Int.toNat_natCast N
  have := ev_anewarray (n := (N : Int)) hd hk5 hk7 hty w1 w2 ⟨by omega, by omega⟩ (mc := mc) (ms := ms) (ls := ls) (st := st) (K := K) (V := V) (Q := Q) (by rw [e]; exact kk)
  rw [e] at this
  exact this
theorem c_Isl_102 {γ : Gh} {K : Sk} {V : Mm} (hT : K.1 102 = (12, 0)) (h1 : K.1 1 = (1, 6)) (h2 : K.1 2 = (1, 6)) (hV : SV V) (hN : K.2.2 = 103) (hz : ∀ j, V 102 j = 0) : Call γ M_X2_init 4 15 142 [vR 102] K V (Qg none (Bl K V 102 118 [(117, 19, 0), (116, 19, 0), (115, 19, 0), (114, 19, 0), (113, 19, 0), (112, 19, 0), (111, 1, 6), (110, 1, 6), (109, 1, 18), (108, 1, 20), (107, 15, 0), (106, 1, 50), (105, 15, 0), (104, 6, 2), (103, 5, 6), (102, 12, 0), (1, 1, 6), (2, 1, 6)] [(103, 5, 117), (103, 4, 116), (103, 3, 115), (103, 2, 114), (103, 1, 113), (103, 0, 112), (102, 11, 111), (102, 10, 110), (102, 9, 109), (102, 3, 107), (107, 0, 108), (102, 2, 105), (105, 0, 106), (102, 1, 104), (104, 0, 0), (104, 1, 0), (102, 0, 103)] [111, 110, 109, 108, 107, 106, 105, 104, 103] [(117, 0, 1), (117, 1, 5), (117, 2, 0), (117, 3, lesF 5), (117, 4, greF 5), (116, 0, 1), (116, 1, 4), (116, 2, 0), (116, 3, lesF 4), (116, 4, greF 4), (115, 0, 1), (115, 1, 3), (115, 2, 0), (115, 3, lesF 3), (115, 4, greF 3), (114, 0, 1), (114, 1, 2), (114, 2, 0), (114, 3, lesF 2), (114, 4, greF 2), (113, 0, 1), (113, 1, 1), (113, 2, 0), (113, 3, lesF 1), (113, 4, greF 1), (112, 0, 1), (112, 1, 0), (112, 2, 0), (112, 3, lesF 0), (112, 4, greF 0), (102, 8, 1), (102, 7, 0), (102, 6, 0), (102, 5, 0), (102, 4, 0)])) := by
  refine call_of (by decide +kernel) (by intro v hv; simp only [List.mem_cons, List.not_mem_nil, or_false] at hv; rcases hv with rfl <;> exact fun q => by cases q) (Nat.le_of_ble_eq_true rfl) ?_
  refine ev_lsE (ls' := [_, _]) rfl ?_
  have hB : Bl K V 102 103 [(102, 12, 0), (1, 1, 6), (2, 1, 6)] [] [102] [] K V := by
    refine ⟨hN, fun q hq => ?_, fun q hq => absurd hq List.not_mem_nil, fun q hq j => ?_, fun q hq => absurd hq List.not_mem_nil, fun c _ => ⟨rfl, fun _ => rfl, rfl⟩, fun _ _ => rfl⟩
    · simp only [List.mem_cons, List.not_mem_nil, or_false] at hq
      rcases hq with rfl | rfl | rfl
      · exact hT
      · exact h1
      · exact h2
    · rw [List.mem_singleton.mp hq]; exact hz j
  refine ev_aload_n (X := M_X2_init) (pc := 0) dX2_init_0 rfl ?_
  refine ev_objInit (X := M_X2_init) (pc := 1) dX2_init_1 kw_42 kw_29 kw_30 (by decide) (by decide) (Nat.le_of_ble_eq_true rfl) ?_
  refine ev_aload_n (X := M_X2_init) (pc := 4) dX2_init_4 rfl ?_
  refine ev_bipush (X := M_X2_init) (pc := 5) dX2_init_5 (by decide) ?_
  refine ev_anewarrayL (X := M_X2_init) (pc := 7) (mc := 14) (ms := 136) (k := 5) (N := 6) dX2_init_7 (by decide) (by decide) rfl kw_43 (fun U h => h.2.2.2.1) rfl (by decide) ?_
  have eN := hB.1
  rw [eN]
  have hB := hB.new (k := 5) (n := 6) (by decide) (by decide) (by decide) (by decide) (by decide)
  obtain ⟨K1, hK1⟩ : ∃ x, nwK K 5 6 = x := ⟨_, rfl⟩
  obtain ⟨V1, hV1⟩ : ∃ x, nwV K V = x := ⟨_, rfl⟩
  rw [hK1, hV1] at hB ⊢
  clear hK1 hV1
  clear eN
  refine ev_putR (X := M_X2_init) (pc := 10) (ki := 0) dX2_init_10 fl_X2_11_2 (by decide) (congrArg Prod.fst (hB.2.1 (102, 12, 0) (List.mem_of_getElem? (i := 1) rfl))) (fun _ h q => by cases h; exact ⟨rfl, rfl⟩) rfl rfl ?_
  have hB := hB.put (o := 102) (f := 0) (x := 103) (by decide) (by decide)
  obtain ⟨K2, hK2⟩ : ∃ x, wrR K1 102 0 103 = x := ⟨_, rfl⟩
  rw [hK2] at hB ⊢
  clear hK2
  refine ev_aload_n (X := M_X2_init) (pc := 13) dX2_init_13 rfl ?_
  refine ev_iconst (X := M_X2_init) (pc := 14) dX2_init_14 ?_
  refine ev_anewarrayL (X := M_X2_init) (pc := 15) (mc := 13) (ms := 134) (k := 6) (N := 2) dX2_init_15 (by decide) (by decide) rfl kw_45 (fun U h => h.2.2.2.2.1) rfl (by decide) ?_
  have eN := hB.1
  rw [eN]
  have hB := hB.new2 (k := 6) (n := 2) (by decide) (by decide) (by decide) (by decide) (by decide)
  obtain ⟨K3, hK3⟩ : ∃ x, nwK K2 6 2 = x := ⟨_, rfl⟩
  obtain ⟨V3, hV3⟩ : ∃ x, nwV K2 V1 = x := ⟨_, rfl⟩
  rw [hK3, hV3] at hB ⊢
  clear hK3 hV3
  clear eN
  refine ev_putR (X := M_X2_init) (pc := 18) (ki := 1) dX2_init_18 fl_X2_19_2 (by decide) (congrArg Prod.fst (hB.2.1 (102, 12, 0) (List.mem_of_getElem? (i := 2) rfl))) (fun _ h q => by cases h; exact ⟨rfl, rfl⟩) rfl rfl ?_
  have hB := hB.put (o := 102) (f := 1) (x := 104) (by decide) (by decide)
  obtain ⟨K4, hK4⟩ : ∃ x, wrR K3 102 1 104 = x := ⟨_, rfl⟩
  rw [hK4] at hB ⊢
  clear hK4
  refine ev_aload_n (X := M_X2_init) (pc := 21) dX2_init_21 rfl ?_
  refine ev_new (X := M_X2_init) (pc := 22) (mc := 12) (ms := 132) (ci := 5) dX2_init_22 rfl kw_47 kw_48 kw_4 ?_
  show Ev _ _ _ _ _ _ _ _ (nwK K4 15 0) _ _
  have eN := hB.1
  rw [eN]
  have hB := hB.new (k := 15) (n := 0) (by decide) (by decide) (by decide) (by decide) (by decide)
  obtain ⟨K5, hK5⟩ : ∃ x, nwK K4 15 0 = x := ⟨_, rfl⟩
  obtain ⟨V5, hV5⟩ : ∃ x, nwV K4 V3 = x := ⟨_, rfl⟩
  rw [hK5, hV5] at hB ⊢
  clear hK5 hV5
  clear eN
  refine ev_dup (X := M_X2_init) (pc := 25) dX2_init_25 (fun _ q => by cases q) ?_
  refine ev_bipush (X := M_X2_init) (pc := 26) dX2_init_26 (by decide) ?_
  have eN := hB.1
  refine ev_initV (X := M_X2_init) (Y := M_X5_init) (pc := 28) dX2_init_28 mk_X5_init rfl rfl kw_49 kw_50 (by decide) (c_Row_init (a := 105) (n := 50) (congrArg Prod.fst (hB.2.1 (105, 15, 0) (List.mem_of_getElem? (i := 0) rfl))) (by decide) (by rw [eN]; decide) (by decide)) rfl (by decide) rfl (Nat.le_of_ble_eq_true rfl) (show 1 + 11 = 12 from rfl) (show 50 + 82 = 132 from rfl) ?_
  rw [eN]
  have hB := (hB.new (k := 1) (n := 50) (by decide) (by decide) (by decide) (by decide) (by decide)).put (o := 105) (f := 0) (x := 106) (by decide) (by decide)
  obtain ⟨K6, hK6⟩ : ∃ x, wrR (nwK K5 1 50) 105 0 106 = x := ⟨_, rfl⟩
  obtain ⟨V6, hV6⟩ : ∃ x, nwV K5 V5 = x := ⟨_, rfl⟩
  rw [hK6, hV6] at hB ⊢
  clear hK6 hV6
  clear eN
  refine ev_putR (X := M_X2_init) (pc := 31) (ki := 2) dX2_init_31 fl_X2_28_2 (by decide) (congrArg Prod.fst (hB.2.1 (102, 12, 0) (List.mem_of_getElem? (i := 4) rfl))) (fun _ h q => by cases h; exact ⟨rfl, rfl⟩) rfl rfl ?_
  have hB := hB.put (o := 102) (f := 2) (x := 105) (by decide) (by decide)
  obtain ⟨K7, hK7⟩ : ∃ x, wrR K6 102 2 105 = x := ⟨_, rfl⟩
  rw [hK7] at hB ⊢
  clear hK7
  refine ev_aload_n (X := M_X2_init) (pc := 34) dX2_init_34 rfl ?_
  refine ev_new (X := M_X2_init) (pc := 35) (mc := 10) (ms := 80) (ci := 5) dX2_init_35 rfl kw_47 kw_48 kw_4 ?_
  show Ev _ _ _ _ _ _ _ _ (nwK K7 15 0) _ _
  have eN := hB.1
  rw [eN]
  have hB := hB.new (k := 15) (n := 0) (by decide) (by decide) (by decide) (by decide) (by decide)
  obtain ⟨K8, hK8⟩ : ∃ x, nwK K7 15 0 = x := ⟨_, rfl⟩
  obtain ⟨V8, hV8⟩ : ∃ x, nwV K7 V6 = x := ⟨_, rfl⟩
  rw [hK8, hV8] at hB ⊢
  clear hK8 hV8
  clear eN
  refine ev_dup (X := M_X2_init) (pc := 38) dX2_init_38 (fun _ q => by cases q) ?_
  refine ev_bipush (X := M_X2_init) (pc := 39) dX2_init_39 (by decide) ?_
  have eN := hB.1
  refine ev_initV (X := M_X2_init) (Y := M_X5_init) (pc := 41) dX2_init_41 mk_X5_init rfl rfl kw_49 kw_50 (by decide) (c_Row_init (a := 107) (n := 20) (congrArg Prod.fst (hB.2.1 (107, 15, 0) (List.mem_of_getElem? (i := 0) rfl))) (by decide) (by rw [eN]; decide) (by decide)) rfl (by decide) rfl (Nat.le_of_ble_eq_true rfl) (show 1 + 9 = 10 from rfl) (show 20 + 60 = 80 from rfl) ?_
  rw [eN]
  have hB := (hB.new (k := 1) (n := 20) (by decide) (by decide) (by decide) (by decide) (by decide)).put (o := 107) (f := 0) (x := 108) (by decide) (by decide)
  obtain ⟨K9, hK9⟩ : ∃ x, wrR (nwK K8 1 20) 107 0 108 = x := ⟨_, rfl⟩
  obtain ⟨V9, hV9⟩ : ∃ x, nwV K8 V8 = x := ⟨_, rfl⟩
  rw [hK9, hV9] at hB ⊢
  clear hK9 hV9
  clear eN
  have hB := hB.zf (c := 102) (i := 4) (by decide)
  have hB := hB.zf (c := 102) (i := 5) (by decide)
  have hB := hB.zf (c := 102) (i := 6) (by decide)
  have hB := hB.zf (c := 102) (i := 7) (by decide)
  refine ev_putR (X := M_X2_init) (pc := 44) (ki := 3) dX2_init_44 fl_X2_32_2 (by decide) (congrArg Prod.fst (hB.2.1 (102, 12, 0) (List.mem_of_getElem? (i := 6) rfl))) (fun _ h q => by cases h; exact ⟨rfl, rfl⟩) rfl rfl ?_
  have hB := hB.put (o := 102) (f := 3) (x := 107) (by decide) (by decide)
  obtain ⟨K10, hK10⟩ : ∃ x, wrR K9 102 3 107 = x := ⟨_, rfl⟩
  rw [hK10] at hB ⊢
  clear hK10
  refine ev_aload_n (X := M_X2_init) (pc := 47) dX2_init_47 rfl ?_
  refine ev_iconst (X := M_X2_init) (pc := 48) dX2_init_48 ?_
  refine ev_putI (X := M_X2_init) (pc := 49) (ki := 8) dX2_init_49 fl_X2_35_2 (by decide) (congrArg Prod.fst (hB.2.1 (102, 12, 0) (List.mem_of_getElem? (i := 6) rfl))) (fun _ h q => by cases h; cases q) (Or.inl rfl) rfl ?_
  have hB := hB.wr (c := 102) (i := 8) (x := 1) (Z' := [108, 107, 106, 105, 104, 103]) (F' := [(102, 7, 0), (102, 6, 0), (102, 5, 0), (102, 4, 0)]) (by decide) (by decide) (by decide)
  obtain ⟨V11, hV11⟩ : ∃ x, wr V9 102 8 1 = x := ⟨_, rfl⟩
  rw [hV11] at hB ⊢
  clear hV11
  refine ev_aload_n (X := M_X2_init) (pc := 52) dX2_init_52 rfl ?_
  refine ev_bipush (X := M_X2_init) (pc := 53) dX2_init_53 (by decide) ?_
  refine ev_newarrayL (X := M_X2_init) (pc := 55) (mc := 8) (ms := 42) (k := 1) (N := 18) dX2_init_55 (by decide) (by decide) rfl kw_67 rfl (by decide) ?_
  have eN := hB.1
  rw [eN]
  have hB := hB.new (k := 1) (n := 18) (by decide) (by decide) (by decide) (by decide) (by decide)
  obtain ⟨K12, hK12⟩ : ∃ x, nwK K10 1 18 = x := ⟨_, rfl⟩
  obtain ⟨V12, hV12⟩ : ∃ x, nwV K10 V11 = x := ⟨_, rfl⟩
  rw [hK12, hV12] at hB ⊢
  clear hK12 hV12
  clear eN
  refine ev_putR (X := M_X2_init) (pc := 57) (ki := 9) dX2_init_57 fl_X2_39_2 (by decide) (congrArg Prod.fst (hB.2.1 (102, 12, 0) (List.mem_of_getElem? (i := 7) rfl))) (fun _ h q => by cases h; exact ⟨rfl, rfl⟩) rfl rfl ?_
  have hB := hB.put (o := 102) (f := 9) (x := 109) (by decide) (by decide)
  obtain ⟨K13, hK13⟩ : ∃ x, wrR K12 102 9 109 = x := ⟨_, rfl⟩
  rw [hK13] at hB ⊢
  clear hK13
  refine ev_aload_n (X := M_X2_init) (pc := 60) dX2_init_60 rfl ?_
  refine ev_bipush (X := M_X2_init) (pc := 61) dX2_init_61 (by decide) ?_
  refine ev_newarrayL (X := M_X2_init) (pc := 63) (mc := 7) (ms := 36) (k := 1) (N := 6) dX2_init_63 (by decide) (by decide) rfl kw_67 rfl (by decide) ?_
  have eN := hB.1
  rw [eN]
  have hB := hB.new (k := 1) (n := 6) (by decide) (by decide) (by decide) (by decide) (by decide)
  obtain ⟨K14, hK14⟩ : ∃ x, nwK K13 1 6 = x := ⟨_, rfl⟩
  obtain ⟨V14, hV14⟩ : ∃ x, nwV K13 V12 = x := ⟨_, rfl⟩
  rw [hK14, hV14] at hB ⊢
  clear hK14 hV14
  clear eN
  refine ev_putR (X := M_X2_init) (pc := 65) (ki := 10) dX2_init_65 fl_X2_43_2 (by decide) (congrArg Prod.fst (hB.2.1 (102, 12, 0) (List.mem_of_getElem? (i := 8) rfl))) (fun _ h q => by cases h; exact ⟨rfl, rfl⟩) rfl rfl ?_
  have hB := hB.put (o := 102) (f := 10) (x := 110) (by decide) (by decide)
  obtain ⟨K15, hK15⟩ : ∃ x, wrR K14 102 10 110 = x := ⟨_, rfl⟩
  rw [hK15] at hB ⊢
  clear hK15
  refine ev_aload_n (X := M_X2_init) (pc := 68) dX2_init_68 rfl ?_
  refine ev_bipush (X := M_X2_init) (pc := 69) dX2_init_69 (by decide) ?_
  refine ev_newarrayL (X := M_X2_init) (pc := 71) (mc := 6) (ms := 30) (k := 1) (N := 6) dX2_init_71 (by decide) (by decide) rfl kw_67 rfl (by decide) ?_
  have eN := hB.1
  rw [eN]
  have hB := hB.new (k := 1) (n := 6) (by decide) (by decide) (by decide) (by decide) (by decide)
  obtain ⟨K16, hK16⟩ : ∃ x, nwK K15 1 6 = x := ⟨_, rfl⟩
  obtain ⟨V16, hV16⟩ : ∃ x, nwV K15 V14 = x := ⟨_, rfl⟩
  rw [hK16, hV16] at hB ⊢
  clear hK16 hV16
  clear eN
  refine ev_putR (X := M_X2_init) (pc := 73) (ki := 11) dX2_init_73 fl_X2_46_2 (by decide) (congrArg Prod.fst (hB.2.1 (102, 12, 0) (List.mem_of_getElem? (i := 9) rfl))) (fun _ h q => by cases h; exact ⟨rfl, rfl⟩) rfl rfl ?_
  have hB := hB.put (o := 102) (f := 11) (x := 111) (by decide) (by decide)
  obtain ⟨K17, hK17⟩ : ∃ x, wrR K16 102 11 111 = x := ⟨_, rfl⟩
  rw [hK17] at hB ⊢
  clear hK17
  refine ev_iconst (X := M_X2_init) (pc := 76) dX2_init_76 ?_
  refine ev_istore_nL (X := M_X2_init) (pc := 77) (ls' := [_, _]) dX2_init_77 (by decide) rfl ?_
  refine ev_weak (ls' := [vR 102, vI 0]) ?_ ⟨rfl, rfl, trivial⟩
  refine ev_iload_n (X := M_X2_init) (pc := 78) dX2_init_78 rfl ?_
  refine ev_bipush (X := M_X2_init) (pc := 79) dX2_init_79 (by decide) ?_
  refine ev_icmp_ge (X := M_X2_init) (pc := 81) (tgt := 106) dX2_init_81 (by decide) (by omega) (by omega) (fun h81 => ?_) (fun h81 => ?_)
  · exact absurd h81 (by decide)
  · refine ev_aload_n (X := M_X2_init) (pc := 84) dX2_init_84 rfl ?_
    refine ev_getRe (X := M_X2_init) (pc := 85) dX2_init_85 fl_X2_11_2 (congrArg Prod.fst (hB.2.1 (102, 12, 0) (List.mem_of_getElem? (i := 9) rfl))) rfl (hB.2.2.1 (102, 0, 103) (List.mem_of_getElem? (i := 10) rfl)) ?_
    refine ev_iload_n (X := M_X2_init) (pc := 88) dX2_init_88 rfl ?_
    refine ev_new (X := M_X2_init) (pc := 89) (mc := 5) (ms := 25) (ci := 9) dX2_init_89 rfl kw_68 kw_69 kw_7 ?_
    show Ev _ _ _ _ _ _ _ _ (nwK K17 19 0) _ _
    have eN := hB.1
    rw [eN]
    have hB := hB.new (k := 19) (n := 0) (by decide) (by decide) (by decide) (by decide) (by decide)
    obtain ⟨K18, hK18⟩ : ∃ x, nwK K17 19 0 = x := ⟨_, rfl⟩
    obtain ⟨V18, hV18⟩ : ∃ x, nwV K17 V16 = x := ⟨_, rfl⟩
    rw [hK18, hV18] at hB ⊢
    clear hK18 hV18
    clear eN
    refine ev_dup (X := M_X2_init) (pc := 92) dX2_init_92 (fun _ q => by cases q) ?_
    refine ev_iconst (X := M_X2_init) (pc := 93) dX2_init_93 ?_
    refine ev_iload_n (X := M_X2_init) (pc := 94) dX2_init_94 rfl ?_
    refine ev_iconst (X := M_X2_init) (pc := 95) dX2_init_95 ?_
    refine ev_initV (X := M_X2_init) (Y := M_X9_init) (pc := 96) dX2_init_96 mk_X9_init rfl rfl kw_70 kw_71 (by decide) (c_iT_9 (hB.2.1 (1, 1, 6) (List.mem_of_getElem? (i := 11) rfl)) (hB.2.1 (2, 1, 6) (List.mem_of_getElem? (i := 12) rfl)) (hB.sv (by decide) hV) (by decide) (by decide) (congrArg Prod.fst (hB.2.1 (112, 19, 0) (List.mem_of_getElem? (i := 0) rfl)))) rfl (by decide) rfl (Nat.le_of_ble_eq_true rfl) (Nat.zero_add _) (Nat.zero_add _) ?_
    have hB := hB.lw (c := 112) (kd := 1) (p := 0) (m := 0) (Z' := [111, 110, 109, 108, 107, 106, 105, 104, 103]) (by decide) (by decide) (by decide)
    obtain ⟨V19, hV19⟩ : ∃ x, lwF V18 112 1 0 0 = x := ⟨_, rfl⟩
    rw [hV19] at hB ⊢
    clear hV19
    refine ev_aastore (X := M_X2_init) (pc := 99) dX2_init_99 (by decide) (hB.2.1 (103, 5, 6) (List.mem_of_getElem? (i := 9) rfl)) (by decide) (by decide) (by decide) (Or.inr ⟨9, (congrArg Prod.fst (hB.2.1 (112, 19, 0) (List.mem_of_getElem? (i := 0) rfl))), ⟨_, rfl, Or.inr ⟨_, rfl, kn_1463⟩⟩⟩) ?_
    have hB := hB.put (o := 103) (f := 0) (x := 112) (by decide) (by decide)
    obtain ⟨K20, hK20⟩ : ∃ x, wrR K18 103 0 112 = x := ⟨_, rfl⟩
    rw [hK20] at hB ⊢
    clear hK20
    refine ev_iincL (X := M_X2_init) (pc := 100) (ls' := [_, _]) dX2_init_100 rfl (by decide) rfl ?_
    refine ev_goto (X := M_X2_init) (pc := 103) (tgt := 78) dX2_init_103 (by decide) ?_
    refine ev_weak (ls' := [vR 102, vI 1]) ?_ ⟨rfl, rfl, trivial⟩
    refine ev_iload_n (X := M_X2_init) (pc := 78) dX2_init_78 rfl ?_
    refine ev_bipush (X := M_X2_init) (pc := 79) dX2_init_79 (by decide) ?_
    refine ev_icmp_ge (X := M_X2_init) (pc := 81) (tgt := 106) dX2_init_81 (by decide) (by omega) (by omega) (fun h81 => ?_) (fun h81 => ?_)
    · exact absurd h81 (by decide)
    · refine ev_aload_n (X := M_X2_init) (pc := 84) dX2_init_84 rfl ?_
      refine ev_getRe (X := M_X2_init) (pc := 85) dX2_init_85 fl_X2_11_2 (congrArg Prod.fst (hB.2.1 (102, 12, 0) (List.mem_of_getElem? (i := 10) rfl))) rfl (hB.2.2.1 (102, 0, 103) (List.mem_of_getElem? (i := 11) rfl)) ?_
      refine ev_iload_n (X := M_X2_init) (pc := 88) dX2_init_88 rfl ?_
      refine ev_new (X := M_X2_init) (pc := 89) (mc := 4) (ms := 20) (ci := 9) dX2_init_89 rfl kw_68 kw_69 kw_7 ?_
      show Ev _ _ _ _ _ _ _ _ (nwK K20 19 0) _ _
      have eN := hB.1
      rw [eN]
      have hB := hB.new (k := 19) (n := 0) (by decide) (by decide) (by decide) (by decide) (by decide)
      obtain ⟨K21, hK21⟩ : ∃ x, nwK K20 19 0 = x := ⟨_, rfl⟩
      obtain ⟨V21, hV21⟩ : ∃ x, nwV K20 V19 = x := ⟨_, rfl⟩
      rw [hK21, hV21] at hB ⊢
      clear hK21 hV21
      clear eN
      refine ev_dup (X := M_X2_init) (pc := 92) dX2_init_92 (fun _ q => by cases q) ?_
      refine ev_iconst (X := M_X2_init) (pc := 93) dX2_init_93 ?_
      refine ev_iload_n (X := M_X2_init) (pc := 94) dX2_init_94 rfl ?_
      refine ev_iconst (X := M_X2_init) (pc := 95) dX2_init_95 ?_
      refine ev_initV (X := M_X2_init) (Y := M_X9_init) (pc := 96) dX2_init_96 mk_X9_init rfl rfl kw_70 kw_71 (by decide) (c_iT_9 (hB.2.1 (1, 1, 6) (List.mem_of_getElem? (i := 12) rfl)) (hB.2.1 (2, 1, 6) (List.mem_of_getElem? (i := 13) rfl)) (hB.sv (by decide) hV) (by decide) (by decide) (congrArg Prod.fst (hB.2.1 (113, 19, 0) (List.mem_of_getElem? (i := 0) rfl)))) rfl (by decide) rfl (Nat.le_of_ble_eq_true rfl) (Nat.zero_add _) (Nat.zero_add _) ?_
      have hB := hB.lw (c := 113) (kd := 1) (p := 1) (m := 0) (Z' := [111, 110, 109, 108, 107, 106, 105, 104, 103]) (by decide) (by decide) (by decide)
      obtain ⟨V22, hV22⟩ : ∃ x, lwF V21 113 1 1 0 = x := ⟨_, rfl⟩
      rw [hV22] at hB ⊢
      clear hV22
      refine ev_aastore (X := M_X2_init) (pc := 99) dX2_init_99 (by decide) (hB.2.1 (103, 5, 6) (List.mem_of_getElem? (i := 10) rfl)) (by decide) (by decide) (by decide) (Or.inr ⟨9, (congrArg Prod.fst (hB.2.1 (113, 19, 0) (List.mem_of_getElem? (i := 0) rfl))), ⟨_, rfl, Or.inr ⟨_, rfl, kn_1463⟩⟩⟩) ?_
      have hB := hB.put (o := 103) (f := 1) (x := 113) (by decide) (by decide)
      obtain ⟨K23, hK23⟩ : ∃ x, wrR K21 103 1 113 = x := ⟨_, rfl⟩
      rw [hK23] at hB ⊢
      clear hK23
      refine ev_iincL (X := M_X2_init) (pc := 100) (ls' := [_, _]) dX2_init_100 rfl (by decide) rfl ?_
      refine ev_goto (X := M_X2_init) (pc := 103) (tgt := 78) dX2_init_103 (by decide) ?_
      refine ev_weak (ls' := [vR 102, vI 2]) ?_ ⟨rfl, rfl, trivial⟩
      refine ev_iload_n (X := M_X2_init) (pc := 78) dX2_init_78 rfl ?_
      refine ev_bipush (X := M_X2_init) (pc := 79) dX2_init_79 (by decide) ?_
      refine ev_icmp_ge (X := M_X2_init) (pc := 81) (tgt := 106) dX2_init_81 (by decide) (by omega) (by omega) (fun h81 => ?_) (fun h81 => ?_)
      · exact absurd h81 (by decide)
      · refine ev_aload_n (X := M_X2_init) (pc := 84) dX2_init_84 rfl ?_
        refine ev_getRe (X := M_X2_init) (pc := 85) dX2_init_85 fl_X2_11_2 (congrArg Prod.fst (hB.2.1 (102, 12, 0) (List.mem_of_getElem? (i := 11) rfl))) rfl (hB.2.2.1 (102, 0, 103) (List.mem_of_getElem? (i := 12) rfl)) ?_
        refine ev_iload_n (X := M_X2_init) (pc := 88) dX2_init_88 rfl ?_
        refine ev_new (X := M_X2_init) (pc := 89) (mc := 3) (ms := 15) (ci := 9) dX2_init_89 rfl kw_68 kw_69 kw_7 ?_
        show Ev _ _ _ _ _ _ _ _ (nwK K23 19 0) _ _
        have eN := hB.1
        rw [eN]
        have hB := hB.new (k := 19) (n := 0) (by decide) (by decide) (by decide) (by decide) (by decide)
        obtain ⟨K24, hK24⟩ : ∃ x, nwK K23 19 0 = x := ⟨_, rfl⟩
        obtain ⟨V24, hV24⟩ : ∃ x, nwV K23 V22 = x := ⟨_, rfl⟩
        rw [hK24, hV24] at hB ⊢
        clear hK24 hV24
        clear eN
        refine ev_dup (X := M_X2_init) (pc := 92) dX2_init_92 (fun _ q => by cases q) ?_
        refine ev_iconst (X := M_X2_init) (pc := 93) dX2_init_93 ?_
        refine ev_iload_n (X := M_X2_init) (pc := 94) dX2_init_94 rfl ?_
        refine ev_iconst (X := M_X2_init) (pc := 95) dX2_init_95 ?_
        refine ev_initV (X := M_X2_init) (Y := M_X9_init) (pc := 96) dX2_init_96 mk_X9_init rfl rfl kw_70 kw_71 (by decide) (c_iT_9 (hB.2.1 (1, 1, 6) (List.mem_of_getElem? (i := 13) rfl)) (hB.2.1 (2, 1, 6) (List.mem_of_getElem? (i := 14) rfl)) (hB.sv (by decide) hV) (by decide) (by decide) (congrArg Prod.fst (hB.2.1 (114, 19, 0) (List.mem_of_getElem? (i := 0) rfl)))) rfl (by decide) rfl (Nat.le_of_ble_eq_true rfl) (Nat.zero_add _) (Nat.zero_add _) ?_
        have hB := hB.lw (c := 114) (kd := 1) (p := 2) (m := 0) (Z' := [111, 110, 109, 108, 107, 106, 105, 104, 103]) (by decide) (by decide) (by decide)
        obtain ⟨V25, hV25⟩ : ∃ x, lwF V24 114 1 2 0 = x := ⟨_, rfl⟩
        rw [hV25] at hB ⊢
        clear hV25
        refine ev_aastore (X := M_X2_init) (pc := 99) dX2_init_99 (by decide) (hB.2.1 (103, 5, 6) (List.mem_of_getElem? (i := 11) rfl)) (by decide) (by decide) (by decide) (Or.inr ⟨9, (congrArg Prod.fst (hB.2.1 (114, 19, 0) (List.mem_of_getElem? (i := 0) rfl))), ⟨_, rfl, Or.inr ⟨_, rfl, kn_1463⟩⟩⟩) ?_
        have hB := hB.put (o := 103) (f := 2) (x := 114) (by decide) (by decide)
        obtain ⟨K26, hK26⟩ : ∃ x, wrR K24 103 2 114 = x := ⟨_, rfl⟩
        rw [hK26] at hB ⊢
        clear hK26
        refine ev_iincL (X := M_X2_init) (pc := 100) (ls' := [_, _]) dX2_init_100 rfl (by decide) rfl ?_
        refine ev_goto (X := M_X2_init) (pc := 103) (tgt := 78) dX2_init_103 (by decide) ?_
        refine ev_weak (ls' := [vR 102, vI 3]) ?_ ⟨rfl, rfl, trivial⟩
        refine ev_iload_n (X := M_X2_init) (pc := 78) dX2_init_78 rfl ?_
        refine ev_bipush (X := M_X2_init) (pc := 79) dX2_init_79 (by decide) ?_
        refine ev_icmp_ge (X := M_X2_init) (pc := 81) (tgt := 106) dX2_init_81 (by decide) (by omega) (by omega) (fun h81 => ?_) (fun h81 => ?_)
        · exact absurd h81 (by decide)
        · refine ev_aload_n (X := M_X2_init) (pc := 84) dX2_init_84 rfl ?_
          refine ev_getRe (X := M_X2_init) (pc := 85) dX2_init_85 fl_X2_11_2 (congrArg Prod.fst (hB.2.1 (102, 12, 0) (List.mem_of_getElem? (i := 12) rfl))) rfl (hB.2.2.1 (102, 0, 103) (List.mem_of_getElem? (i := 13) rfl)) ?_
          refine ev_iload_n (X := M_X2_init) (pc := 88) dX2_init_88 rfl ?_
          refine ev_new (X := M_X2_init) (pc := 89) (mc := 2) (ms := 10) (ci := 9) dX2_init_89 rfl kw_68 kw_69 kw_7 ?_
          show Ev _ _ _ _ _ _ _ _ (nwK K26 19 0) _ _
          have eN := hB.1
          rw [eN]
          have hB := hB.new (k := 19) (n := 0) (by decide) (by decide) (by decide) (by decide) (by decide)
          obtain ⟨K27, hK27⟩ : ∃ x, nwK K26 19 0 = x := ⟨_, rfl⟩
          obtain ⟨V27, hV27⟩ : ∃ x, nwV K26 V25 = x := ⟨_, rfl⟩
          rw [hK27, hV27] at hB ⊢
          clear hK27 hV27
          clear eN
          refine ev_dup (X := M_X2_init) (pc := 92) dX2_init_92 (fun _ q => by cases q) ?_
          refine ev_iconst (X := M_X2_init) (pc := 93) dX2_init_93 ?_
          refine ev_iload_n (X := M_X2_init) (pc := 94) dX2_init_94 rfl ?_
          refine ev_iconst (X := M_X2_init) (pc := 95) dX2_init_95 ?_
          refine ev_initV (X := M_X2_init) (Y := M_X9_init) (pc := 96) dX2_init_96 mk_X9_init rfl rfl kw_70 kw_71 (by decide) (c_iT_9 (hB.2.1 (1, 1, 6) (List.mem_of_getElem? (i := 14) rfl)) (hB.2.1 (2, 1, 6) (List.mem_of_getElem? (i := 15) rfl)) (hB.sv (by decide) hV) (by decide) (by decide) (congrArg Prod.fst (hB.2.1 (115, 19, 0) (List.mem_of_getElem? (i := 0) rfl)))) rfl (by decide) rfl (Nat.le_of_ble_eq_true rfl) (Nat.zero_add _) (Nat.zero_add _) ?_
          have hB := hB.lw (c := 115) (kd := 1) (p := 3) (m := 0) (Z' := [111, 110, 109, 108, 107, 106, 105, 104, 103]) (by decide) (by decide) (by decide)
          obtain ⟨V28, hV28⟩ : ∃ x, lwF V27 115 1 3 0 = x := ⟨_, rfl⟩
          rw [hV28] at hB ⊢
          clear hV28
          refine ev_aastore (X := M_X2_init) (pc := 99) dX2_init_99 (by decide) (hB.2.1 (103, 5, 6) (List.mem_of_getElem? (i := 12) rfl)) (by decide) (by decide) (by decide) (Or.inr ⟨9, (congrArg Prod.fst (hB.2.1 (115, 19, 0) (List.mem_of_getElem? (i := 0) rfl))), ⟨_, rfl, Or.inr ⟨_, rfl, kn_1463⟩⟩⟩) ?_
          have hB := hB.put (o := 103) (f := 3) (x := 115) (by decide) (by decide)
          obtain ⟨K29, hK29⟩ : ∃ x, wrR K27 103 3 115 = x := ⟨_, rfl⟩
          rw [hK29] at hB ⊢
          clear hK29
          refine ev_iincL (X := M_X2_init) (pc := 100) (ls' := [_, _]) dX2_init_100 rfl (by decide) rfl ?_
          refine ev_goto (X := M_X2_init) (pc := 103) (tgt := 78) dX2_init_103 (by decide) ?_
          refine ev_weak (ls' := [vR 102, vI 4]) ?_ ⟨rfl, rfl, trivial⟩
          refine ev_iload_n (X := M_X2_init) (pc := 78) dX2_init_78 rfl ?_
          refine ev_bipush (X := M_X2_init) (pc := 79) dX2_init_79 (by decide) ?_
          refine ev_icmp_ge (X := M_X2_init) (pc := 81) (tgt := 106) dX2_init_81 (by decide) (by omega) (by omega) (fun h81 => ?_) (fun h81 => ?_)
          · exact absurd h81 (by decide)
          · refine ev_aload_n (X := M_X2_init) (pc := 84) dX2_init_84 rfl ?_
            refine ev_getRe (X := M_X2_init) (pc := 85) dX2_init_85 fl_X2_11_2 (congrArg Prod.fst (hB.2.1 (102, 12, 0) (List.mem_of_getElem? (i := 13) rfl))) rfl (hB.2.2.1 (102, 0, 103) (List.mem_of_getElem? (i := 14) rfl)) ?_
            refine ev_iload_n (X := M_X2_init) (pc := 88) dX2_init_88 rfl ?_
            refine ev_new (X := M_X2_init) (pc := 89) (mc := 1) (ms := 5) (ci := 9) dX2_init_89 rfl kw_68 kw_69 kw_7 ?_
            show Ev _ _ _ _ _ _ _ _ (nwK K29 19 0) _ _
            have eN := hB.1
            rw [eN]
            have hB := hB.new (k := 19) (n := 0) (by decide) (by decide) (by decide) (by decide) (by decide)
            obtain ⟨K30, hK30⟩ : ∃ x, nwK K29 19 0 = x := ⟨_, rfl⟩
            obtain ⟨V30, hV30⟩ : ∃ x, nwV K29 V28 = x := ⟨_, rfl⟩
            rw [hK30, hV30] at hB ⊢
            clear hK30 hV30
            clear eN
            refine ev_dup (X := M_X2_init) (pc := 92) dX2_init_92 (fun _ q => by cases q) ?_
            refine ev_iconst (X := M_X2_init) (pc := 93) dX2_init_93 ?_
            refine ev_iload_n (X := M_X2_init) (pc := 94) dX2_init_94 rfl ?_
            refine ev_iconst (X := M_X2_init) (pc := 95) dX2_init_95 ?_
            refine ev_initV (X := M_X2_init) (Y := M_X9_init) (pc := 96) dX2_init_96 mk_X9_init rfl rfl kw_70 kw_71 (by decide) (c_iT_9 (hB.2.1 (1, 1, 6) (List.mem_of_getElem? (i := 15) rfl)) (hB.2.1 (2, 1, 6) (List.mem_of_getElem? (i := 16) rfl)) (hB.sv (by decide) hV) (by decide) (by decide) (congrArg Prod.fst (hB.2.1 (116, 19, 0) (List.mem_of_getElem? (i := 0) rfl)))) rfl (by decide) rfl (Nat.le_of_ble_eq_true rfl) (Nat.zero_add _) (Nat.zero_add _) ?_
            have hB := hB.lw (c := 116) (kd := 1) (p := 4) (m := 0) (Z' := [111, 110, 109, 108, 107, 106, 105, 104, 103]) (by decide) (by decide) (by decide)
            obtain ⟨V31, hV31⟩ : ∃ x, lwF V30 116 1 4 0 = x := ⟨_, rfl⟩
            rw [hV31] at hB ⊢
            clear hV31
            refine ev_aastore (X := M_X2_init) (pc := 99) dX2_init_99 (by decide) (hB.2.1 (103, 5, 6) (List.mem_of_getElem? (i := 13) rfl)) (by decide) (by decide) (by decide) (Or.inr ⟨9, (congrArg Prod.fst (hB.2.1 (116, 19, 0) (List.mem_of_getElem? (i := 0) rfl))), ⟨_, rfl, Or.inr ⟨_, rfl, kn_1463⟩⟩⟩) ?_
            have hB := hB.put (o := 103) (f := 4) (x := 116) (by decide) (by decide)
            obtain ⟨K32, hK32⟩ : ∃ x, wrR K30 103 4 116 = x := ⟨_, rfl⟩
            rw [hK32] at hB ⊢
            clear hK32
            refine ev_iincL (X := M_X2_init) (pc := 100) (ls' := [_, _]) dX2_init_100 rfl (by decide) rfl ?_
            refine ev_goto (X := M_X2_init) (pc := 103) (tgt := 78) dX2_init_103 (by decide) ?_
            refine ev_weak (ls' := [vR 102, vI 5]) ?_ ⟨rfl, rfl, trivial⟩
            refine ev_iload_n (X := M_X2_init) (pc := 78) dX2_init_78 rfl ?_
            refine ev_bipush (X := M_X2_init) (pc := 79) dX2_init_79 (by decide) ?_
            refine ev_icmp_ge (X := M_X2_init) (pc := 81) (tgt := 106) dX2_init_81 (by decide) (by omega) (by omega) (fun h81 => ?_) (fun h81 => ?_)
            · exact absurd h81 (by decide)
            · refine ev_aload_n (X := M_X2_init) (pc := 84) dX2_init_84 rfl ?_
              refine ev_getRe (X := M_X2_init) (pc := 85) dX2_init_85 fl_X2_11_2 (congrArg Prod.fst (hB.2.1 (102, 12, 0) (List.mem_of_getElem? (i := 14) rfl))) rfl (hB.2.2.1 (102, 0, 103) (List.mem_of_getElem? (i := 15) rfl)) ?_
              refine ev_iload_n (X := M_X2_init) (pc := 88) dX2_init_88 rfl ?_
              refine ev_new (X := M_X2_init) (pc := 89) (mc := 0) (ms := 0) (ci := 9) dX2_init_89 rfl kw_68 kw_69 kw_7 ?_
              show Ev _ _ _ _ _ _ _ _ (nwK K32 19 0) _ _
              have eN := hB.1
              rw [eN]
              have hB := hB.new (k := 19) (n := 0) (by decide) (by decide) (by decide) (by decide) (by decide)
              obtain ⟨K33, hK33⟩ : ∃ x, nwK K32 19 0 = x := ⟨_, rfl⟩
              obtain ⟨V33, hV33⟩ : ∃ x, nwV K32 V31 = x := ⟨_, rfl⟩
              rw [hK33, hV33] at hB ⊢
              clear hK33 hV33
              clear eN
              refine ev_dup (X := M_X2_init) (pc := 92) dX2_init_92 (fun _ q => by cases q) ?_
              refine ev_iconst (X := M_X2_init) (pc := 93) dX2_init_93 ?_
              refine ev_iload_n (X := M_X2_init) (pc := 94) dX2_init_94 rfl ?_
              refine ev_iconst (X := M_X2_init) (pc := 95) dX2_init_95 ?_
              refine ev_initV (X := M_X2_init) (Y := M_X9_init) (pc := 96) dX2_init_96 mk_X9_init rfl rfl kw_70 kw_71 (by decide) (c_iT_9 (hB.2.1 (1, 1, 6) (List.mem_of_getElem? (i := 16) rfl)) (hB.2.1 (2, 1, 6) (List.mem_of_getElem? (i := 17) rfl)) (hB.sv (by decide) hV) (by decide) (by decide) (congrArg Prod.fst (hB.2.1 (117, 19, 0) (List.mem_of_getElem? (i := 0) rfl)))) rfl (by decide) rfl (Nat.le_of_ble_eq_true rfl) (Nat.zero_add _) (Nat.zero_add _) ?_
              have hB := hB.lw (c := 117) (kd := 1) (p := 5) (m := 0) (Z' := [111, 110, 109, 108, 107, 106, 105, 104, 103]) (by decide) (by decide) (by decide)
              obtain ⟨V34, hV34⟩ : ∃ x, lwF V33 117 1 5 0 = x := ⟨_, rfl⟩
              rw [hV34] at hB ⊢
              clear hV34
              refine ev_aastore (X := M_X2_init) (pc := 99) dX2_init_99 (by decide) (hB.2.1 (103, 5, 6) (List.mem_of_getElem? (i := 14) rfl)) (by decide) (by decide) (by decide) (Or.inr ⟨9, (congrArg Prod.fst (hB.2.1 (117, 19, 0) (List.mem_of_getElem? (i := 0) rfl))), ⟨_, rfl, Or.inr ⟨_, rfl, kn_1463⟩⟩⟩) ?_
              have hB := hB.put (o := 103) (f := 5) (x := 117) (by decide) (by decide)
              obtain ⟨K35, hK35⟩ : ∃ x, wrR K33 103 5 117 = x := ⟨_, rfl⟩
              rw [hK35] at hB ⊢
              clear hK35
              refine ev_iincL (X := M_X2_init) (pc := 100) (ls' := [_, _]) dX2_init_100 rfl (by decide) rfl ?_
              refine ev_goto (X := M_X2_init) (pc := 103) (tgt := 78) dX2_init_103 (by decide) ?_
              refine ev_weak (ls' := [vR 102, vI 6]) ?_ ⟨rfl, rfl, trivial⟩
              refine ev_iload_n (X := M_X2_init) (pc := 78) dX2_init_78 rfl ?_
              refine ev_bipush (X := M_X2_init) (pc := 79) dX2_init_79 (by decide) ?_
              refine ev_icmp_ge (X := M_X2_init) (pc := 81) (tgt := 106) dX2_init_81 (by decide) (by omega) (by omega) (fun h81 => ?_) (fun h81 => ?_)
              · refine ev_vret (X := M_X2_init) (pc := 106) dX2_init_106 rfl ?_
                exact ⟨rfl, hB⟩
              · exact absurd (by decide) h81
theorem c_Isl_127 {γ : Gh} {K : Sk} {V : Mm} (hT : K.1 127 = (12, 0)) (h1 : K.1 1 = (1, 6)) (h2 : K.1 2 = (1, 6)) (hV : SV V) (hN : K.2.2 = 128) (hz : ∀ j, V 127 j = 0) : Call γ M_X2_init 4 15 142 [vR 127] K V (Qg none (Bl K V 127 143 [(142, 19, 0), (141, 19, 0), (140, 19, 0), (139, 19, 0), (138, 19, 0), (137, 19, 0), (136, 1, 6), (135, 1, 6), (134, 1, 18), (133, 1, 20), (132, 15, 0), (131, 1, 50), (130, 15, 0), (129, 6, 2), (128, 5, 6), (127, 12, 0), (1, 1, 6), (2, 1, 6)] [(128, 5, 142), (128, 4, 141), (128, 3, 140), (128, 2, 139), (128, 1, 138), (128, 0, 137), (127, 11, 136), (127, 10, 135), (127, 9, 134), (127, 3, 132), (132, 0, 133), (127, 2, 130), (130, 0, 131), (127, 1, 129), (129, 0, 0), (129, 1, 0), (127, 0, 128)] [136, 135, 134, 133, 132, 131, 130, 129, 128] [(142, 0, 1), (142, 1, 5), (142, 2, 0), (142, 3, lesF 5), (142, 4, greF 5), (141, 0, 1), (141, 1, 4), (141, 2, 0), (141, 3, lesF 4), (141, 4, greF 4), (140, 0, 1), (140, 1, 3), (140, 2, 0), (140, 3, lesF 3), (140, 4, greF 3), (139, 0, 1), (139, 1, 2), (139, 2, 0), (139, 3, lesF 2), (139, 4, greF 2), (138, 0, 1), (138, 1, 1), (138, 2, 0), (138, 3, lesF 1), (138, 4, greF 1), (137, 0, 1), (137, 1, 0), (137, 2, 0), (137, 3, lesF 0), (137, 4, greF 0), (127, 8, 1), (127, 7, 0), (127, 6, 0), (127, 5, 0), (127, 4, 0)])) := by
  refine call_of (by decide +kernel) (by intro v hv; simp only [List.mem_cons, List.not_mem_nil, or_false] at hv; rcases hv with rfl <;> exact fun q => by cases q) (Nat.le_of_ble_eq_true rfl) ?_
  refine ev_lsE (ls' := [_, _]) rfl ?_
  have hB : Bl K V 127 128 [(127, 12, 0), (1, 1, 6), (2, 1, 6)] [] [127] [] K V := by
    refine ⟨hN, fun q hq => ?_, fun q hq => absurd hq List.not_mem_nil, fun q hq j => ?_, fun q hq => absurd hq List.not_mem_nil, fun c _ => ⟨rfl, fun _ => rfl, rfl⟩, fun _ _ => rfl⟩
    · simp only [List.mem_cons, List.not_mem_nil, or_false] at hq
      rcases hq with rfl | rfl | rfl
      · exact hT
      · exact h1
      · exact h2
    · rw [List.mem_singleton.mp hq]; exact hz j
  refine ev_aload_n (X := M_X2_init) (pc := 0) dX2_init_0 rfl ?_
  refine ev_objInit (X := M_X2_init) (pc := 1) dX2_init_1 kw_42 kw_29 kw_30 (by decide) (by decide) (Nat.le_of_ble_eq_true rfl) ?_
  refine ev_aload_n (X := M_X2_init) (pc := 4) dX2_init_4 rfl ?_
  refine ev_bipush (X := M_X2_init) (pc := 5) dX2_init_5 (by decide) ?_
  refine ev_anewarrayL (X := M_X2_init) (pc := 7) (mc := 14) (ms := 136) (k := 5) (N := 6) dX2_init_7 (by decide) (by decide) rfl kw_43 (fun U h => h.2.2.2.1) rfl (by decide) ?_
  have eN := hB.1
  rw [eN]
  have hB := hB.new (k := 5) (n := 6) (by decide) (by decide) (by decide) (by decide) (by decide)
  obtain ⟨K1, hK1⟩ : ∃ x, nwK K 5 6 = x := ⟨_, rfl⟩
  obtain ⟨V1, hV1⟩ : ∃ x, nwV K V = x := ⟨_, rfl⟩
  rw [hK1, hV1] at hB ⊢
  clear hK1 hV1
  clear eN
  refine ev_putR (X := M_X2_init) (pc := 10) (ki := 0) dX2_init_10 fl_X2_11_2 (by decide) (congrArg Prod.fst (hB.2.1 (127, 12, 0) (List.mem_of_getElem? (i := 1) rfl))) (fun _ h q => by cases h; exact ⟨rfl, rfl⟩) rfl rfl ?_
  have hB := hB.put (o := 127) (f := 0) (x := 128) (by decide) (by decide)
  obtain ⟨K2, hK2⟩ : ∃ x, wrR K1 127 0 128 = x := ⟨_, rfl⟩
  rw [hK2] at hB ⊢
  clear hK2
  refine ev_aload_n (X := M_X2_init) (pc := 13) dX2_init_13 rfl ?_
  refine ev_iconst (X := M_X2_init) (pc := 14) dX2_init_14 ?_
  refine ev_anewarrayL (X := M_X2_init) (pc := 15) (mc := 13) (ms := 134) (k := 6) (N := 2) dX2_init_15 (by decide) (by decide) rfl kw_45 (fun U h => h.2.2.2.2.1) rfl (by decide) ?_
  have eN := hB.1
  rw [eN]
  have hB := hB.new2 (k := 6) (n := 2) (by decide) (by decide) (by decide) (by decide) (by decide)
  obtain ⟨K3, hK3⟩ : ∃ x, nwK K2 6 2 = x := ⟨_, rfl⟩
  obtain ⟨V3, hV3⟩ : ∃ x, nwV K2 V1 = x := ⟨_, rfl⟩
  rw [hK3, hV3] at hB ⊢
  clear hK3 hV3
  clear eN
  refine ev_putR (X := M_X2_init) (pc := 18) (ki := 1) dX2_init_18 fl_X2_19_2 (by decide) (congrArg Prod.fst (hB.2.1 (127, 12, 0) (List.mem_of_getElem? (i := 2) rfl))) (fun _ h q => by cases h; exact ⟨rfl, rfl⟩) rfl rfl ?_
  have hB := hB.put (o := 127) (f := 1) (x := 129) (by decide) (by decide)
  obtain ⟨K4, hK4⟩ : ∃ x, wrR K3 127 1 129 = x := ⟨_, rfl⟩
  rw [hK4] at hB ⊢
  clear hK4
  refine ev_aload_n (X := M_X2_init) (pc := 21) dX2_init_21 rfl ?_
  refine ev_new (X := M_X2_init) (pc := 22) (mc := 12) (ms := 132) (ci := 5) dX2_init_22 rfl kw_47 kw_48 kw_4 ?_
  show Ev _ _ _ _ _ _ _ _ (nwK K4 15 0) _ _
  have eN := hB.1
  rw [eN]
  have hB := hB.new (k := 15) (n := 0) (by decide) (by decide) (by decide) (by decide) (by decide)
  obtain ⟨K5, hK5⟩ : ∃ x, nwK K4 15 0 = x := ⟨_, rfl⟩
  obtain ⟨V5, hV5⟩ : ∃ x, nwV K4 V3 = x := ⟨_, rfl⟩
  rw [hK5, hV5] at hB ⊢
  clear hK5 hV5
  clear eN
  refine ev_dup (X := M_X2_init) (pc := 25) dX2_init_25 (fun _ q => by cases q) ?_
  refine ev_bipush (X := M_X2_init) (pc := 26) dX2_init_26 (by decide) ?_
  have eN := hB.1
  refine ev_initV (X := M_X2_init) (Y := M_X5_init) (pc := 28) dX2_init_28 mk_X5_init rfl rfl kw_49 kw_50 (by decide) (c_Row_init (a := 130) (n := 50) (congrArg Prod.fst (hB.2.1 (130, 15, 0) (List.mem_of_getElem? (i := 0) rfl))) (by decide) (by rw [eN]; decide) (by decide)) rfl (by decide) rfl (Nat.le_of_ble_eq_true rfl) (show 1 + 11 = 12 from rfl) (show 50 + 82 = 132 from rfl) ?_
  rw [eN]
  have hB := (hB.new (k := 1) (n := 50) (by decide) (by decide) (by decide) (by decide) (by decide)).put (o := 130) (f := 0) (x := 131) (by decide) (by decide)
  obtain ⟨K6, hK6⟩ : ∃ x, wrR (nwK K5 1 50) 130 0 131 = x := ⟨_, rfl⟩
  obtain ⟨V6, hV6⟩ : ∃ x, nwV K5 V5 = x := ⟨_, rfl⟩
  rw [hK6, hV6] at hB ⊢
  clear hK6 hV6
  clear eN
  refine ev_putR (X := M_X2_init) (pc := 31) (ki := 2) dX2_init_31 fl_X2_28_2 (by decide) (congrArg Prod.fst (hB.2.1 (127, 12, 0) (List.mem_of_getElem? (i := 4) rfl))) (fun _ h q => by cases h; exact ⟨rfl, rfl⟩) rfl rfl ?_
  have hB := hB.put (o := 127) (f := 2) (x := 130) (by decide) (by decide)
  obtain ⟨K7, hK7⟩ : ∃ x, wrR K6 127 2 130 = x := ⟨_, rfl⟩
  rw [hK7] at hB ⊢
  clear hK7
  refine ev_aload_n (X := M_X2_init) (pc := 34) dX2_init_34 rfl ?_
  refine ev_new (X := M_X2_init) (pc := 35) (mc := 10) (ms := 80) (ci := 5) dX2_init_35 rfl kw_47 kw_48 kw_4 ?_
  show Ev _ _ _ _ _ _ _ _ (nwK K7 15 0) _ _
  have eN := hB.1
  rw [eN]
  have hB := hB.new (k := 15) (n := 0) (by decide) (by decide) (by decide) (by decide) (by decide)
  obtain ⟨K8, hK8⟩ : ∃ x, nwK K7 15 0 = x := ⟨_, rfl⟩
  obtain ⟨V8, hV8⟩ : ∃ x, nwV K7 V6 = x := ⟨_, rfl⟩
  rw [hK8, hV8] at hB ⊢
  clear hK8 hV8
  clear eN
  refine ev_dup (X := M_X2_init) (pc := 38) dX2_init_38 (fun _ q => by cases q) ?_
  refine ev_bipush (X := M_X2_init) (pc := 39) dX2_init_39 (by decide) ?_
  have eN := hB.1
  refine ev_initV (X := M_X2_init) (Y := M_X5_init) (pc := 41) dX2_init_41 mk_X5_init rfl rfl kw_49 kw_50 (by decide) (c_Row_init (a := 132) (n := 20) (congrArg Prod.fst (hB.2.1 (132, 15, 0) (List.mem_of_getElem? (i := 0) rfl))) (by decide) (by rw [eN]; decide) (by decide)) rfl (by decide) rfl (Nat.le_of_ble_eq_true rfl) (show 1 + 9 = 10 from rfl) (show 20 + 60 = 80 from rfl) ?_
  rw [eN]
  have hB := (hB.new (k := 1) (n := 20) (by decide) (by decide) (by decide) (by decide) (by decide)).put (o := 132) (f := 0) (x := 133) (by decide) (by decide)
  obtain ⟨K9, hK9⟩ : ∃ x, wrR (nwK K8 1 20) 132 0 133 = x := ⟨_, rfl⟩
  obtain ⟨V9, hV9⟩ : ∃ x, nwV K8 V8 = x := ⟨_, rfl⟩
  rw [hK9, hV9] at hB ⊢
  clear hK9 hV9
  clear eN
  have hB := hB.zf (c := 127) (i := 4) (by decide)
  have hB := hB.zf (c := 127) (i := 5) (by decide)
  have hB := hB.zf (c := 127) (i := 6) (by decide)
  have hB := hB.zf (c := 127) (i := 7) (by decide)
  refine ev_putR (X := M_X2_init) (pc := 44) (ki := 3) dX2_init_44 fl_X2_32_2 (by decide) (congrArg Prod.fst (hB.2.1 (127, 12, 0) (List.mem_of_getElem? (i := 6) rfl))) (fun _ h q => by cases h; exact ⟨rfl, rfl⟩) rfl rfl ?_
  have hB := hB.put (o := 127) (f := 3) (x := 132) (by decide) (by decide)
  obtain ⟨K10, hK10⟩ : ∃ x, wrR K9 127 3 132 = x := ⟨_, rfl⟩
  rw [hK10] at hB ⊢
  clear hK10
  refine ev_aload_n (X := M_X2_init) (pc := 47) dX2_init_47 rfl ?_
  refine ev_iconst (X := M_X2_init) (pc := 48) dX2_init_48 ?_
  refine ev_putI (X := M_X2_init) (pc := 49) (ki := 8) dX2_init_49 fl_X2_35_2 (by decide) (congrArg Prod.fst (hB.2.1 (127, 12, 0) (List.mem_of_getElem? (i := 6) rfl))) (fun _ h q => by cases h; cases q) (Or.inl rfl) rfl ?_
  have hB := hB.wr (c := 127) (i := 8) (x := 1) (Z' := [133, 132, 131, 130, 129, 128]) (F' := [(127, 7, 0), (127, 6, 0), (127, 5, 0), (127, 4, 0)]) (by decide) (by decide) (by decide)
  obtain ⟨V11, hV11⟩ : ∃ x, wr V9 127 8 1 = x := ⟨_, rfl⟩
  rw [hV11] at hB ⊢
  clear hV11
  refine ev_aload_n (X := M_X2_init) (pc := 52) dX2_init_52 rfl ?_
  refine ev_bipush (X := M_X2_init) (pc := 53) dX2_init_53 (by decide) ?_
  refine ev_newarrayL (X := M_X2_init) (pc := 55) (mc := 8) (ms := 42) (k := 1) (N := 18) dX2_init_55 (by decide) (by decide) rfl kw_67 rfl (by decide) ?_
  have eN := hB.1
  rw [eN]
  have hB := hB.new (k := 1) (n := 18) (by decide) (by decide) (by decide) (by decide) (by decide)
  obtain ⟨K12, hK12⟩ : ∃ x, nwK K10 1 18 = x := ⟨_, rfl⟩
  obtain ⟨V12, hV12⟩ : ∃ x, nwV K10 V11 = x := ⟨_, rfl⟩
  rw [hK12, hV12] at hB ⊢
  clear hK12 hV12
  clear eN
  refine ev_putR (X := M_X2_init) (pc := 57) (ki := 9) dX2_init_57 fl_X2_39_2 (by decide) (congrArg Prod.fst (hB.2.1 (127, 12, 0) (List.mem_of_getElem? (i := 7) rfl))) (fun _ h q => by cases h; exact ⟨rfl, rfl⟩) rfl rfl ?_
  have hB := hB.put (o := 127) (f := 9) (x := 134) (by decide) (by decide)
  obtain ⟨K13, hK13⟩ : ∃ x, wrR K12 127 9 134 = x := ⟨_, rfl⟩
  rw [hK13] at hB ⊢
  clear hK13
  refine ev_aload_n (X := M_X2_init) (pc := 60) dX2_init_60 rfl ?_
  refine ev_bipush (X := M_X2_init) (pc := 61) dX2_init_61 (by decide) ?_
  refine ev_newarrayL (X := M_X2_init) (pc := 63) (mc := 7) (ms := 36) (k := 1) (N := 6) dX2_init_63 (by decide) (by decide) rfl kw_67 rfl (by decide) ?_
  have eN := hB.1
  rw [eN]
  have hB := hB.new (k := 1) (n := 6) (by decide) (by decide) (by decide) (by decide) (by decide)
  obtain ⟨K14, hK14⟩ : ∃ x, nwK K13 1 6 = x := ⟨_, rfl⟩
  obtain ⟨V14, hV14⟩ : ∃ x, nwV K13 V12 = x := ⟨_, rfl⟩
  rw [hK14, hV14] at hB ⊢
  clear hK14 hV14
  clear eN
  refine ev_putR (X := M_X2_init) (pc := 65) (ki := 10) dX2_init_65 fl_X2_43_2 (by decide) (congrArg Prod.fst (hB.2.1 (127, 12, 0) (List.mem_of_getElem? (i := 8) rfl))) (fun _ h q => by cases h; exact ⟨rfl, rfl⟩) rfl rfl ?_
  have hB := hB.put (o := 127) (f := 10) (x := 135) (by decide) (by decide)
  obtain ⟨K15, hK15⟩ : ∃ x, wrR K14 127 10 135 = x := ⟨_, rfl⟩
  rw [hK15] at hB ⊢
  clear hK15
  refine ev_aload_n (X := M_X2_init) (pc := 68) dX2_init_68 rfl ?_
  refine ev_bipush (X := M_X2_init) (pc := 69) dX2_init_69 (by decide) ?_
  refine ev_newarrayL (X := M_X2_init) (pc := 71) (mc := 6) (ms := 30) (k := 1) (N := 6) dX2_init_71 (by decide) (by decide) rfl kw_67 rfl (by decide) ?_
  have eN := hB.1
  rw [eN]
  have hB := hB.new (k := 1) (n := 6) (by decide) (by decide) (by decide) (by decide) (by decide)
  obtain ⟨K16, hK16⟩ : ∃ x, nwK K15 1 6 = x := ⟨_, rfl⟩
  obtain ⟨V16, hV16⟩ : ∃ x, nwV K15 V14 = x := ⟨_, rfl⟩
  rw [hK16, hV16] at hB ⊢
  clear hK16 hV16
  clear eN
  refine ev_putR (X := M_X2_init) (pc := 73) (ki := 11) dX2_init_73 fl_X2_46_2 (by decide) (congrArg Prod.fst (hB.2.1 (127, 12, 0) (List.mem_of_getElem? (i := 9) rfl))) (fun _ h q => by cases h; exact ⟨rfl, rfl⟩) rfl rfl ?_
  have hB := hB.put (o := 127) (f := 11) (x := 136) (by decide) (by decide)
  obtain ⟨K17, hK17⟩ : ∃ x, wrR K16 127 11 136 = x := ⟨_, rfl⟩
  rw [hK17] at hB ⊢
  clear hK17
  refine ev_iconst (X := M_X2_init) (pc := 76) dX2_init_76 ?_
  refine ev_istore_nL (X := M_X2_init) (pc := 77) (ls' := [_, _]) dX2_init_77 (by decide) rfl ?_
  refine ev_weak (ls' := [vR 127, vI 0]) ?_ ⟨rfl, rfl, trivial⟩
  refine ev_iload_n (X := M_X2_init) (pc := 78) dX2_init_78 rfl ?_
  refine ev_bipush (X := M_X2_init) (pc := 79) dX2_init_79 (by decide) ?_
  refine ev_icmp_ge (X := M_X2_init) (pc := 81) (tgt := 106) dX2_init_81 (by decide) (by omega) (by omega) (fun h81 => ?_) (fun h81 => ?_)
  · exact absurd h81 (by decide)
  · refine ev_aload_n (X := M_X2_init) (pc := 84) dX2_init_84 rfl ?_
    refine ev_getRe (X := M_X2_init) (pc := 85) dX2_init_85 fl_X2_11_2 (congrArg Prod.fst (hB.2.1 (127, 12, 0) (List.mem_of_getElem? (i := 9) rfl))) rfl (hB.2.2.1 (127, 0, 128) (List.mem_of_getElem? (i := 10) rfl)) ?_
    refine ev_iload_n (X := M_X2_init) (pc := 88) dX2_init_88 rfl ?_
    refine ev_new (X := M_X2_init) (pc := 89) (mc := 5) (ms := 25) (ci := 9) dX2_init_89 rfl kw_68 kw_69 kw_7 ?_
    show Ev _ _ _ _ _ _ _ _ (nwK K17 19 0) _ _
    have eN := hB.1
    rw [eN]
    have hB := hB.new (k := 19) (n := 0) (by decide) (by decide) (by decide) (by decide) (by decide)
    obtain ⟨K18, hK18⟩ : ∃ x, nwK K17 19 0 = x := ⟨_, rfl⟩
    obtain ⟨V18, hV18⟩ : ∃ x, nwV K17 V16 = x := ⟨_, rfl⟩
    rw [hK18, hV18] at hB ⊢
    clear hK18 hV18
    clear eN
    refine ev_dup (X := M_X2_init) (pc := 92) dX2_init_92 (fun _ q => by cases q) ?_
    refine ev_iconst (X := M_X2_init) (pc := 93) dX2_init_93 ?_
    refine ev_iload_n (X := M_X2_init) (pc := 94) dX2_init_94 rfl ?_
    refine ev_iconst (X := M_X2_init) (pc := 95) dX2_init_95 ?_
    refine ev_initV (X := M_X2_init) (Y := M_X9_init) (pc := 96) dX2_init_96 mk_X9_init rfl rfl kw_70 kw_71 (by decide) (c_iT_9 (hB.2.1 (1, 1, 6) (List.mem_of_getElem? (i := 11) rfl)) (hB.2.1 (2, 1, 6) (List.mem_of_getElem? (i := 12) rfl)) (hB.sv (by decide) hV) (by decide) (by decide) (congrArg Prod.fst (hB.2.1 (137, 19, 0) (List.mem_of_getElem? (i := 0) rfl)))) rfl (by decide) rfl (Nat.le_of_ble_eq_true rfl) (Nat.zero_add _) (Nat.zero_add _) ?_
    have hB := hB.lw (c := 137) (kd := 1) (p := 0) (m := 0) (Z' := [136, 135, 134, 133, 132, 131, 130, 129, 128]) (by decide) (by decide) (by decide)
    obtain ⟨V19, hV19⟩ : ∃ x, lwF V18 137 1 0 0 = x := ⟨_, rfl⟩
    rw [hV19] at hB ⊢
    clear hV19
    refine ev_aastore (X := M_X2_init) (pc := 99) dX2_init_99 (by decide) (hB.2.1 (128, 5, 6) (List.mem_of_getElem? (i := 9) rfl)) (by decide) (by decide) (by decide) (Or.inr ⟨9, (congrArg Prod.fst (hB.2.1 (137, 19, 0) (List.mem_of_getElem? (i := 0) rfl))), ⟨_, rfl, Or.inr ⟨_, rfl, kn_1463⟩⟩⟩) ?_
    have hB := hB.put (o := 128) (f := 0) (x := 137) (by decide) (by decide)
    obtain ⟨K20, hK20⟩ : ∃ x, wrR K18 128 0 137 = x := ⟨_, rfl⟩
    rw [hK20] at hB ⊢
    clear hK20
    refine ev_iincL (X := M_X2_init) (pc := 100) (ls' := [_, _]) dX2_init_100 rfl (by decide) rfl ?_
    refine ev_goto (X := M_X2_init) (pc := 103) (tgt := 78) dX2_init_103 (by decide) ?_
    refine ev_weak (ls' := [vR 127, vI 1]) ?_ ⟨rfl, rfl, trivial⟩
    refine ev_iload_n (X := M_X2_init) (pc := 78) dX2_init_78 rfl ?_
    refine ev_bipush (X := M_X2_init) (pc := 79) dX2_init_79 (by decide) ?_
    refine ev_icmp_ge (X := M_X2_init) (pc := 81) (tgt := 106) dX2_init_81 (by decide) (by omega) (by omega) (fun h81 => ?_) (fun h81 => ?_)
    · exact absurd h81 (by decide)
    · refine ev_aload_n (X := M_X2_init) (pc := 84) dX2_init_84 rfl ?_
      refine ev_getRe (X := M_X2_init) (pc := 85) dX2_init_85 fl_X2_11_2 (congrArg Prod.fst (hB.2.1 (127, 12, 0) (List.mem_of_getElem? (i := 10) rfl))) rfl (hB.2.2.1 (127, 0, 128) (List.mem_of_getElem? (i := 11) rfl)) ?_
      refine ev_iload_n (X := M_X2_init) (pc := 88) dX2_init_88 rfl ?_
      refine ev_new (X := M_X2_init) (pc := 89) (mc := 4) (ms := 20) (ci := 9) dX2_init_89 rfl kw_68 kw_69 kw_7 ?_
      show Ev _ _ _ _ _ _ _ _ (nwK K20 19 0) _ _
      have eN := hB.1
      rw [eN]
      have hB := hB.new (k := 19) (n := 0) (by decide) (by decide) (by decide) (by decide) (by decide)
      obtain ⟨K21, hK21⟩ : ∃ x, nwK K20 19 0 = x := ⟨_, rfl⟩
      obtain ⟨V21, hV21⟩ : ∃ x, nwV K20 V19 = x := ⟨_, rfl⟩
      rw [hK21, hV21] at hB ⊢
      clear hK21 hV21
      clear eN
      refine ev_dup (X := M_X2_init) (pc := 92) dX2_init_92 (fun _ q => by cases q) ?_
      refine ev_iconst (X := M_X2_init) (pc := 93) dX2_init_93 ?_
      refine ev_iload_n (X := M_X2_init) (pc := 94) dX2_init_94 rfl ?_
      refine ev_iconst (X := M_X2_init) (pc := 95) dX2_init_95 ?_
      refine ev_initV (X := M_X2_init) (Y := M_X9_init) (pc := 96) dX2_init_96 mk_X9_init rfl rfl kw_70 kw_71 (by decide) (c_iT_9 (hB.2.1 (1, 1, 6) (List.mem_of_getElem? (i := 12) rfl)) (hB.2.1 (2, 1, 6) (List.mem_of_getElem? (i := 13) rfl)) (hB.sv (by decide) hV) (by decide) (by decide) (congrArg Prod.fst (hB.2.1 (138, 19, 0) (List.mem_of_getElem? (i := 0) rfl)))) rfl (by decide) rfl (Nat.le_of_ble_eq_true rfl) (Nat.zero_add _) (Nat.zero_add _) ?_
      have hB := hB.lw (c := 138) (kd := 1) (p := 1) (m := 0) (Z' := [136, 135, 134, 133, 132, 131, 130, 129, 128]) (by decide) (by decide) (by decide)
      obtain ⟨V22, hV22⟩ : ∃ x, lwF V21 138 1 1 0 = x := ⟨_, rfl⟩
      rw [hV22] at hB ⊢
      clear hV22
      refine ev_aastore (X := M_X2_init) (pc := 99) dX2_init_99 (by decide) (hB.2.1 (128, 5, 6) (List.mem_of_getElem? (i := 10) rfl)) (by decide) (by decide) (by decide) (Or.inr ⟨9, (congrArg Prod.fst (hB.2.1 (138, 19, 0) (List.mem_of_getElem? (i := 0) rfl))), ⟨_, rfl, Or.inr ⟨_, rfl, kn_1463⟩⟩⟩) ?_
      have hB := hB.put (o := 128) (f := 1) (x := 138) (by decide) (by decide)
      obtain ⟨K23, hK23⟩ : ∃ x, wrR K21 128 1 138 = x := ⟨_, rfl⟩
      rw [hK23] at hB ⊢
      clear hK23
      refine ev_iincL (X := M_X2_init) (pc := 100) (ls' := [_, _]) dX2_init_100 rfl (by decide) rfl ?_
      refine ev_goto (X := M_X2_init) (pc := 103) (tgt := 78) dX2_init_103 (by decide) ?_
      refine ev_weak (ls' := [vR 127, vI 2]) ?_ ⟨rfl, rfl, trivial⟩
      refine ev_iload_n (X := M_X2_init) (pc := 78) dX2_init_78 rfl ?_
      refine ev_bipush (X := M_X2_init) (pc := 79) dX2_init_79 (by decide) ?_
      refine ev_icmp_ge (X := M_X2_init) (pc := 81) (tgt := 106) dX2_init_81 (by decide) (by omega) (by omega) (fun h81 => ?_) (fun h81 => ?_)
      · exact absurd h81 (by decide)
      · refine ev_aload_n (X := M_X2_init) (pc := 84) dX2_init_84 rfl ?_
        refine ev_getRe (X := M_X2_init) (pc := 85) dX2_init_85 fl_X2_11_2 (congrArg Prod.fst (hB.2.1 (127, 12, 0) (List.mem_of_getElem? (i := 11) rfl))) rfl (hB.2.2.1 (127, 0, 128) (List.mem_of_getElem? (i := 12) rfl)) ?_
        refine ev_iload_n (X := M_X2_init) (pc := 88) dX2_init_88 rfl ?_
        refine ev_new (X := M_X2_init) (pc := 89) (mc := 3) (ms := 15) (ci := 9) dX2_init_89 rfl kw_68 kw_69 kw_7 ?_
        show Ev _ _ _ _ _ _ _ _ (nwK K23 19 0) _ _
        have eN := hB.1
        rw [eN]
        have hB := hB.new (k := 19) (n := 0) (by decide) (by decide) (by decide) (by decide) (by decide)
        obtain ⟨K24, hK24⟩ : ∃ x, nwK K23 19 0 = x := ⟨_, rfl⟩
        obtain ⟨V24, hV24⟩ : ∃ x, nwV K23 V22 = x := ⟨_, rfl⟩
        rw [hK24, hV24] at hB ⊢
        clear hK24 hV24
        clear eN
        refine ev_dup (X := M_X2_init) (pc := 92) dX2_init_92 (fun _ q => by cases q) ?_
        refine ev_iconst (X := M_X2_init) (pc := 93) dX2_init_93 ?_
        refine ev_iload_n (X := M_X2_init) (pc := 94) dX2_init_94 rfl ?_
        refine ev_iconst (X := M_X2_init) (pc := 95) dX2_init_95 ?_
        refine ev_initV (X := M_X2_init) (Y := M_X9_init) (pc := 96) dX2_init_96 mk_X9_init rfl rfl kw_70 kw_71 (by decide) (c_iT_9 (hB.2.1 (1, 1, 6) (List.mem_of_getElem? (i := 13) rfl)) (hB.2.1 (2, 1, 6) (List.mem_of_getElem? (i := 14) rfl)) (hB.sv (by decide) hV) (by decide) (by decide) (congrArg Prod.fst (hB.2.1 (139, 19, 0) (List.mem_of_getElem? (i := 0) rfl)))) rfl (by decide) rfl (Nat.le_of_ble_eq_true rfl) (Nat.zero_add _) (Nat.zero_add _) ?_
        have hB := hB.lw (c := 139) (kd := 1) (p := 2) (m := 0) (Z' := [136, 135, 134, 133, 132, 131, 130, 129, 128]) (by decide) (by decide) (by decide)
        obtain ⟨V25, hV25⟩ : ∃ x, lwF V24 139 1 2 0 = x := ⟨_, rfl⟩
        rw [hV25] at hB ⊢
        clear hV25
        refine ev_aastore (X := M_X2_init) (pc := 99) dX2_init_99 (by decide) (hB.2.1 (128, 5, 6) (List.mem_of_getElem? (i := 11) rfl)) (by decide) (by decide) (by decide) (Or.inr ⟨9, (congrArg Prod.fst (hB.2.1 (139, 19, 0) (List.mem_of_getElem? (i := 0) rfl))), ⟨_, rfl, Or.inr ⟨_, rfl, kn_1463⟩⟩⟩) ?_
        have hB := hB.put (o := 128) (f := 2) (x := 139) (by decide) (by decide)
        obtain ⟨K26, hK26⟩ : ∃ x, wrR K24 128 2 139 = x := ⟨_, rfl⟩
        rw [hK26] at hB ⊢
        clear hK26
        refine ev_iincL (X := M_X2_init) (pc := 100) (ls' := [_, _]) dX2_init_100 rfl (by decide) rfl ?_
        refine ev_goto (X := M_X2_init) (pc := 103) (tgt := 78) dX2_init_103 (by decide) ?_
        refine ev_weak (ls' := [vR 127, vI 3]) ?_ ⟨rfl, rfl, trivial⟩
        refine ev_iload_n (X := M_X2_init) (pc := 78) dX2_init_78 rfl ?_
        refine ev_bipush (X := M_X2_init) (pc := 79) dX2_init_79 (by decide) ?_
        refine ev_icmp_ge (X := M_X2_init) (pc := 81) (tgt := 106) dX2_init_81 (by decide) (by omega) (by omega) (fun h81 => ?_) (fun h81 => ?_)
        · exact absurd h81 (by decide)
        · refine ev_aload_n (X := M_X2_init) (pc := 84) dX2_init_84 rfl ?_
          refine ev_getRe (X := M_X2_init) (pc := 85) dX2_init_85 fl_X2_11_2 (congrArg Prod.fst (hB.2.1 (127, 12, 0) (List.mem_of_getElem? (i := 12) rfl))) rfl (hB.2.2.1 (127, 0, 128) (List.mem_of_getElem? (i := 13) rfl)) ?_
          refine ev_iload_n (X := M_X2_init) (pc := 88) dX2_init_88 rfl ?_
          refine ev_new (X := M_X2_init) (pc := 89) (mc := 2) (ms := 10) (ci := 9) dX2_init_89 rfl kw_68 kw_69 kw_7 ?_
          show Ev _ _ _ _ _ _ _ _ (nwK K26 19 0) _ _
          have eN := hB.1
          rw [eN]
          have hB := hB.new (k := 19) (n := 0) (by decide) (by decide) (by decide) (by decide) (by decide)
          obtain ⟨K27, hK27⟩ : ∃ x, nwK K26 19 0 = x := ⟨_, rfl⟩
          obtain ⟨V27, hV27⟩ : ∃ x, nwV K26 V25 = x := ⟨_, rfl⟩
          rw [hK27, hV27] at hB ⊢
          clear hK27 hV27
          clear eN
          refine ev_dup (X := M_X2_init) (pc := 92) dX2_init_92 (fun _ q => by cases q) ?_
          refine ev_iconst (X := M_X2_init) (pc := 93) dX2_init_93 ?_
          refine ev_iload_n (X := M_X2_init) (pc := 94) dX2_init_94 rfl ?_
          refine ev_iconst (X := M_X2_init) (pc := 95) dX2_init_95 ?_
          refine ev_initV (X := M_X2_init) (Y := M_X9_init) (pc := 96) dX2_init_96 mk_X9_init rfl rfl kw_70 kw_71 (by decide) (c_iT_9 (hB.2.1 (1, 1, 6) (List.mem_of_getElem? (i := 14) rfl)) (hB.2.1 (2, 1, 6) (List.mem_of_getElem? (i := 15) rfl)) (hB.sv (by decide) hV) (by decide) (by decide) (congrArg Prod.fst (hB.2.1 (140, 19, 0) (List.mem_of_getElem? (i := 0) rfl)))) rfl (by decide) rfl (Nat.le_of_ble_eq_true rfl) (Nat.zero_add _) (Nat.zero_add _) ?_
          have hB := hB.lw (c := 140) (kd := 1) (p := 3) (m := 0) (Z' := [136, 135, 134, 133, 132, 131, 130, 129, 128]) (by decide) (by decide) (by decide)
          obtain ⟨V28, hV28⟩ : ∃ x, lwF V27 140 1 3 0 = x := ⟨_, rfl⟩
          rw [hV28] at hB ⊢
          clear hV28
          refine ev_aastore (X := M_X2_init) (pc := 99) dX2_init_99 (by decide) (hB.2.1 (128, 5, 6) (List.mem_of_getElem? (i := 12) rfl)) (by decide) (by decide) (by decide) (Or.inr ⟨9, (congrArg Prod.fst (hB.2.1 (140, 19, 0) (List.mem_of_getElem? (i := 0) rfl))), ⟨_, rfl, Or.inr ⟨_, rfl, kn_1463⟩⟩⟩) ?_
          have hB := hB.put (o := 128) (f := 3) (x := 140) (by decide) (by decide)
          obtain ⟨K29, hK29⟩ : ∃ x, wrR K27 128 3 140 = x := ⟨_, rfl⟩
          rw [hK29] at hB ⊢
          clear hK29
          refine ev_iincL (X := M_X2_init) (pc := 100) (ls' := [_, _]) dX2_init_100 rfl (by decide) rfl ?_
          refine ev_goto (X := M_X2_init) (pc := 103) (tgt := 78) dX2_init_103 (by decide) ?_
          refine ev_weak (ls' := [vR 127, vI 4]) ?_ ⟨rfl, rfl, trivial⟩
          refine ev_iload_n (X := M_X2_init) (pc := 78) dX2_init_78 rfl ?_
          refine ev_bipush (X := M_X2_init) (pc := 79) dX2_init_79 (by decide) ?_
          refine ev_icmp_ge (X := M_X2_init) (pc := 81) (tgt := 106) dX2_init_81 (by decide) (by omega) (by omega) (fun h81 => ?_) (fun h81 => ?_)
          · exact absurd h81 (by decide)
          · refine ev_aload_n (X := M_X2_init) (pc := 84) dX2_init_84 rfl ?_
            refine ev_getRe (X := M_X2_init) (pc := 85) dX2_init_85 fl_X2_11_2 (congrArg Prod.fst (hB.2.1 (127, 12, 0) (List.mem_of_getElem? (i := 13) rfl))) rfl (hB.2.2.1 (127, 0, 128) (List.mem_of_getElem? (i := 14) rfl)) ?_
            refine ev_iload_n (X := M_X2_init) (pc := 88) dX2_init_88 rfl ?_
            refine ev_new (X := M_X2_init) (pc := 89) (mc := 1) (ms := 5) (ci := 9) dX2_init_89 rfl kw_68 kw_69 kw_7 ?_
            show Ev _ _ _ _ _ _ _ _ (nwK K29 19 0) _ _
            have eN := hB.1
            rw [eN]
            have hB := hB.new (k := 19) (n := 0) (by decide) (by decide) (by decide) (by decide) (by decide)
            obtain ⟨K30, hK30⟩ : ∃ x, nwK K29 19 0 = x := ⟨_, rfl⟩
            obtain ⟨V30, hV30⟩ : ∃ x, nwV K29 V28 = x := ⟨_, rfl⟩
            rw [hK30, hV30] at hB ⊢
            clear hK30 hV30
            clear eN
            refine ev_dup (X := M_X2_init) (pc := 92) dX2_init_92 (fun _ q => by cases q) ?_
            refine ev_iconst (X := M_X2_init) (pc := 93) dX2_init_93 ?_
            refine ev_iload_n (X := M_X2_init) (pc := 94) dX2_init_94 rfl ?_
            refine ev_iconst (X := M_X2_init) (pc := 95) dX2_init_95 ?_
            refine ev_initV (X := M_X2_init) (Y := M_X9_init) (pc := 96) dX2_init_96 mk_X9_init rfl rfl kw_70 kw_71 (by decide) (c_iT_9 (hB.2.1 (1, 1, 6) (List.mem_of_getElem? (i := 15) rfl)) (hB.2.1 (2, 1, 6) (List.mem_of_getElem? (i := 16) rfl)) (hB.sv (by decide) hV) (by decide) (by decide) (congrArg Prod.fst (hB.2.1 (141, 19, 0) (List.mem_of_getElem? (i := 0) rfl)))) rfl (by decide) rfl (Nat.le_of_ble_eq_true rfl) (Nat.zero_add _) (Nat.zero_add _) ?_
            have hB := hB.lw (c := 141) (kd := 1) (p := 4) (m := 0) (Z' := [136, 135, 134, 133, 132, 131, 130, 129, 128]) (by decide) (by decide) (by decide)
            obtain ⟨V31, hV31⟩ : ∃ x, lwF V30 141 1 4 0 = x := ⟨_, rfl⟩
            rw [hV31] at hB ⊢
            clear hV31
            refine ev_aastore (X := M_X2_init) (pc := 99) dX2_init_99 (by decide) (hB.2.1 (128, 5, 6) (List.mem_of_getElem? (i := 13) rfl)) (by decide) (by decide) (by decide) (Or.inr ⟨9, (congrArg Prod.fst (hB.2.1 (141, 19, 0) (List.mem_of_getElem? (i := 0) rfl))), ⟨_, rfl, Or.inr ⟨_, rfl, kn_1463⟩⟩⟩) ?_
            have hB := hB.put (o := 128) (f := 4) (x := 141) (by decide) (by decide)
            obtain ⟨K32, hK32⟩ : ∃ x, wrR K30 128 4 141 = x := ⟨_, rfl⟩
            rw [hK32] at hB ⊢
            clear hK32
            refine ev_iincL (X := M_X2_init) (pc := 100) (ls' := [_, _]) dX2_init_100 rfl (by decide) rfl ?_
            refine ev_goto (X := M_X2_init) (pc := 103) (tgt := 78) dX2_init_103 (by decide) ?_
            refine ev_weak (ls' := [vR 127, vI 5]) ?_ ⟨rfl, rfl, trivial⟩
            refine ev_iload_n (X := M_X2_init) (pc := 78) dX2_init_78 rfl ?_
            refine ev_bipush (X := M_X2_init) (pc := 79) dX2_init_79 (by decide) ?_
            refine ev_icmp_ge (X := M_X2_init) (pc := 81) (tgt := 106) dX2_init_81 (by decide) (by omega) (by omega) (fun h81 => ?_) (fun h81 => ?_)
            · exact absurd h81 (by decide)
            · refine ev_aload_n (X := M_X2_init) (pc := 84) dX2_init_84 rfl ?_
              refine ev_getRe (X := M_X2_init) (pc := 85) dX2_init_85 fl_X2_11_2 (congrArg Prod.fst (hB.2.1 (127, 12, 0) (List.mem_of_getElem? (i := 14) rfl))) rfl (hB.2.2.1 (127, 0, 128) (List.mem_of_getElem? (i := 15) rfl)) ?_
              refine ev_iload_n (X := M_X2_init) (pc := 88) dX2_init_88 rfl ?_
              refine ev_new (X := M_X2_init) (pc := 89) (mc := 0) (ms := 0) (ci := 9) dX2_init_89 rfl kw_68 kw_69 kw_7 ?_
              show Ev _ _ _ _ _ _ _ _ (nwK K32 19 0) _ _
              have eN := hB.1
              rw [eN]
              have hB := hB.new (k := 19) (n := 0) (by decide) (by decide) (by decide) (by decide) (by decide)
              obtain ⟨K33, hK33⟩ : ∃ x, nwK K32 19 0 = x := ⟨_, rfl⟩
              obtain ⟨V33, hV33⟩ : ∃ x, nwV K32 V31 = x := ⟨_, rfl⟩
              rw [hK33, hV33] at hB ⊢
              clear hK33 hV33
              clear eN
              refine ev_dup (X := M_X2_init) (pc := 92) dX2_init_92 (fun _ q => by cases q) ?_
              refine ev_iconst (X := M_X2_init) (pc := 93) dX2_init_93 ?_
              refine ev_iload_n (X := M_X2_init) (pc := 94) dX2_init_94 rfl ?_
              refine ev_iconst (X := M_X2_init) (pc := 95) dX2_init_95 ?_
              refine ev_initV (X := M_X2_init) (Y := M_X9_init) (pc := 96) dX2_init_96 mk_X9_init rfl rfl kw_70 kw_71 (by decide) (c_iT_9 (hB.2.1 (1, 1, 6) (List.mem_of_getElem? (i := 16) rfl)) (hB.2.1 (2, 1, 6) (List.mem_of_getElem? (i := 17) rfl)) (hB.sv (by decide) hV) (by decide) (by decide) (congrArg Prod.fst (hB.2.1 (142, 19, 0) (List.mem_of_getElem? (i := 0) rfl)))) rfl (by decide) rfl (Nat.le_of_ble_eq_true rfl) (Nat.zero_add _) (Nat.zero_add _) ?_
              have hB := hB.lw (c := 142) (kd := 1) (p := 5) (m := 0) (Z' := [136, 135, 134, 133, 132, 131, 130, 129, 128]) (by decide) (by decide) (by decide)
              obtain ⟨V34, hV34⟩ : ∃ x, lwF V33 142 1 5 0 = x := ⟨_, rfl⟩
              rw [hV34] at hB ⊢
              clear hV34
              refine ev_aastore (X := M_X2_init) (pc := 99) dX2_init_99 (by decide) (hB.2.1 (128, 5, 6) (List.mem_of_getElem? (i := 14) rfl)) (by decide) (by decide) (by decide) (Or.inr ⟨9, (congrArg Prod.fst (hB.2.1 (142, 19, 0) (List.mem_of_getElem? (i := 0) rfl))), ⟨_, rfl, Or.inr ⟨_, rfl, kn_1463⟩⟩⟩) ?_
              have hB := hB.put (o := 128) (f := 5) (x := 142) (by decide) (by decide)
              obtain ⟨K35, hK35⟩ : ∃ x, wrR K33 128 5 142 = x := ⟨_, rfl⟩
              rw [hK35] at hB ⊢
              clear hK35
              refine ev_iincL (X := M_X2_init) (pc := 100) (ls' := [_, _]) dX2_init_100 rfl (by decide) rfl ?_
              refine ev_goto (X := M_X2_init) (pc := 103) (tgt := 78) dX2_init_103 (by decide) ?_
              refine ev_weak (ls' := [vR 127, vI 6]) ?_ ⟨rfl, rfl, trivial⟩
              refine ev_iload_n (X := M_X2_init) (pc := 78) dX2_init_78 rfl ?_
              refine ev_bipush (X := M_X2_init) (pc := 79) dX2_init_79 (by decide) ?_
              refine ev_icmp_ge (X := M_X2_init) (pc := 81) (tgt := 106) dX2_init_81 (by decide) (by omega) (by omega) (fun h81 => ?_) (fun h81 => ?_)
              · refine ev_vret (X := M_X2_init) (pc := 106) dX2_init_106 rfl ?_
                exact ⟨rfl, hB⟩
              · exact absurd (by decide) h81
