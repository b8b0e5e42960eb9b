/-! ===== texts: what they rest on, what they are made of ===== -/
def rs (n : Int) (g : Int → Int) : Int → Int := fun i => if 0 ≤ i ∧ i < n then g i else 0
theorem rs_eq {n : Int} {g g' : Int → Int} (h : ∀ i, 0 ≤ i → i < n → g i = g' i) : rs n g = rs n g' := by
  funext i
  unfold rs
  split
  · next z => exact h i z.1 z.2
  · rfl
theorem rs_at {n i : Int} {g : Int → Int} (h0 : 0 ≤ i) (h1 : i < n) : rs n g i = g i := by unfold rs; rw [if_pos ⟨h0, h1⟩]
theorem sgn_rs {f : Int → Int} {n q : Int} (hq : 0 ≤ q) : sgn (rs n f) n q = sgn f n q := by
  unfold sgn
  split
  · next z => exact rs_at hq z
  · rfl
def Cg (n : Int) (g g' : Int → RR) : Prop := ∀ q, 0 ≤ q → q ≤ n → g q = g' q
theorem lp_c {n : Int} {f : Int → Int} {j : Nat} {g g' : Int → RR} (hg : Bd n g) (hc : Cg n g g') : ∀ (k : Nat) (l : List Int) (q : Int), 0 ≤ q → q ≤ n → lp g f n j k l q = lp g' (rs n f) n j k l q
  | 0, l, q, _, _ => rfl
  | k + 1, l, q, h0, h1 => by
    show (if sgn f n q ∈ opsJ j then andR (g (q + 1)) (fun m q' => lp g f n j k (l ++ m ++ [-(sgn f n q)]) q') else (some l, q)) = (if sgn (rs n f) n q ∈ opsJ j then andR (g' (q + 1)) (fun m q' => lp g' (rs n f) n j k (l ++ m ++ [-(sgn (rs n f) n q)]) q') else (some l, q))
    rw [sgn_rs h0]
    by_cases z : sgn f n q ∈ opsJ j
    · rw [if_pos z, if_pos z]
      have hpo := ops_pos z
      have hq := (sgn_in (f := f) (n := n) (q := q) (by omega)).1
      rw [← hc (q + 1) (by omega) (by omega)]
      have hB := hg (q + 1) (by omega) (by omega)
      generalize g (q + 1) = r at *
      obtain ⟨o, q'⟩ := r
      cases o with
      | none => rfl
      | some m =>
        obtain ⟨b1, b2, b3⟩ := hB
        exact lp_c hg hc k _ q' (by omega) b3
    · rw [if_neg z, if_neg z]
theorem lvl_c {n : Int} {f : Int → Int} {g g' : Int → RR} (hg : Bd n g) (hc : Cg n g g') : ∀ j, Cg n (lvl g f n j) (lvl g' (rs n f) n j)
  | 0 => hc
  | j + 1 => fun q h0 h1 => by
    show andR (lvl g f n j q) _ = andR (lvl g' (rs n f) n j q) _
    rw [← lvl_c hg hc j q h0 h1]
    have hB := lvl_B (f := f) hg j q h0 h1
    generalize lvl g f n j q = r at *
    obtain ⟨o, q'⟩ := r
    cases o with
    | none => rfl
    | some m =>
      obtain ⟨b1, b2, b3⟩ := hB
      exact lp_c (lvl_B (f := f) hg j) (lvl_c hg hc j) _ _ q' (by omega) b3
theorem dg_c {n : Int} {f : Int → Int} : ∀ (k : Nat) (v q : Int), 0 ≤ q → dg (rs n f) n k v q = dg f n k v q
  | 0, _, _, _ => rfl
  | k + 1, v, q, h0 => by
    show (if 48 ≤ sgn (rs n f) n q ∧ sgn (rs n f) n q ≤ 57 then dg (rs n f) n k (v * 10 + sgn (rs n f) n q - 48) (q + 1) else (v, q)) = (if 48 ≤ sgn f n q ∧ sgn f n q ≤ 57 then dg f n k (v * 10 + sgn f n q - 48) (q + 1) else (v, q))
    rw [sgn_rs h0, dg_c k _ (q + 1) (by omega)]
theorem prA_c {f : Int → Int} {n u : Int} {k : Nat} {g g' : Int → RR} (hg : 0 < k → Bd n g) (hc : Cg n g g') : Cg n (prA f n u k g) (prA (rs n f) n u k g') := fun q h0 h1 => by
  unfold prA
  rw [sgn_rs h0, dg_c 4 0 q h0]
  by_cases z1 : 48 ≤ sgn f n q ∧ sgn f n q ≤ 57
  · rw [if_pos z1, if_pos z1]
  rw [if_neg z1, if_neg z1]
  by_cases z2 : 0 ≤ nmI u (sgn f n q)
  · rw [if_pos z2, if_pos z2]
  rw [if_neg z2, if_neg z2]
  by_cases z3 : sgn f n q = 33 ∧ 0 < k
  · have hq := (sgn_in (f := f) (n := n) (q := q) (by omega)).1
    rw [if_pos z3, if_pos z3, hc (q + 1) (by omega) (by omega)]
  rw [if_neg z3, if_neg z3]
  by_cases z4 : sgn f n q = 40 ∧ 0 < k
  · have hq := (sgn_in (f := f) (n := n) (q := q) (by omega)).1
    rw [if_pos z4, if_pos z4, ← lvl_c (f := f) (hg z4.2) hc 5 (q + 1) (by omega) (by omega)]
    have hB := lvl_B (f := f) (hg z4.2) 5 (q + 1) (by omega) (by omega)
    generalize lvl g f n 5 (q + 1) = r at *
    obtain ⟨o, q'⟩ := r
    cases o with
    | none => rfl
    | some m =>
      obtain ⟨b1, b2, b3⟩ := hB
      show (if sgn f n q' = 41 then (some m, q' + 1) else (none, q')) = (if sgn (rs n f) n q' = 41 then (some m, q' + 1) else (none, q'))
      rw [sgn_rs (by omega)]
  rw [if_neg z4, if_neg z4]
theorem prS_c {f : Int → Int} {n u : Int} : ∀ k, Cg n (prS f n u k) (prS (rs n f) n u k)
  | 0 => prA_c (fun z => absurd z (by decide)) (fun _ _ _ => rfl)
  | k + 1 => prA_c (fun _ => prS_B k) (prS_c k)
theorem txt_rs {f : Int → Int} {n u : Int} (hn : 0 ≤ n) : txt f n u = txt (rs n f) n u := lvl_c (prS_B 5) (prS_c 5) 5 0 (Int.le_refl 0) hn
/-- what code is made of -/
def itU (u y : Int) : Prop := itOk y ∧ (u = 0 → y ≠ -4)
abbrev R32 (x : Int) : Prop := -2147483648 ≤ x ∧ x < 2147483648
def Pg (u : Int) (l : List Int) : Prop := (∀ nm : Int → Int, (∀ k, R32 (nm k)) → ∃ x, Good nm l x ∧ R32 x) ∧ ∀ y ∈ l, itU u y
theorem Pg.one {u y : Int} (h : -4 ≤ y ∧ y < 10000) (hu : u = 0 → y ≠ -4) : Pg u [y] := by
  refine ⟨fun nm hn => ⟨itV nm y, Good.one h.1, ?_⟩, fun z hz => ?_⟩
  · unfold itV
    split
    · show -2147483648 ≤ y ∧ y < 2147483648; omega
    · exact hn _
  · rw [List.mem_singleton] at hz
    rw [hz]
    exact ⟨Or.inl h, hu⟩
theorem Pg.neg {u : Int} {l : List Int} (h : Pg u l) : Pg u (l ++ [-33]) := by
  refine ⟨fun nm hn => ?_, fun z hz => ?_⟩
  · obtain ⟨x, hx, _⟩ := h.1 nm hn
    exact ⟨_, hx.neg, by split <;> decide⟩
  · rcases List.mem_append.mp hz with q | q
    · exact h.2 z q
    · rw [List.mem_singleton] at q
      rw [q]
      exact ⟨Or.inr (Or.inl rfl), fun _ => by decide⟩
theorem ops_it {j : Nat} {s : Int} (h : s ∈ opsJ j) : itOk (-s) ∧ -s ≠ -4 := by
  have hp := ops_pos h
  refine ⟨Or.inr (Or.inr ?_), by omega⟩
  rw [Int.neg_neg]
  unfold opsJ at h
  split at h <;> simp only [List.mem_cons, List.not_mem_nil, or_false] at h ⊢ <;> omega
theorem Pg.bin {u s : Int} {j : Nat} {l m : List Int} (h : Pg u l) (g : Pg u m) (hs : s ∈ opsJ j) : Pg u (l ++ m ++ [-s]) := by
  refine ⟨fun nm hn => ?_, fun z hz => ?_⟩
  · obtain ⟨x, hx, _⟩ := h.1 nm hn
    obtain ⟨y, hy, _⟩ := g.1 nm hn
    exact ⟨_, hx.bin hy (ops_pos hs).1, jn_r⟩
  · rcases List.mem_append.mp hz with q | q
    · rcases List.mem_append.mp q with q | q
      · exact h.2 z q
      · exact g.2 z q
    · rw [List.mem_singleton] at q
      rw [q]
      exact ⟨(ops_it hs).1, fun _ => (ops_it hs).2⟩
def GG (u : Int) (g : Int → RR) : Prop := ∀ q l q', g q = (some l, q') → Pg u l
theorem lp_G {u n : Int} {g : Int → RR} {f : Int → Int} {j : Nat} (hg : GG u g) : ∀ (k : Nat) (l : List Int) (q : Int) (l' : List Int) (q' : Int), Pg u l → lp g f n j k l q = (some l', q') → Pg u l'
  | 0, l, q, l', q', h, e => by
    have e2 : (some l, q) = (some l', q') := e
    rw [Option.some.inj (congrArg Prod.fst e2)] at h
    exact h
  | k + 1, l, q, l', q', h, e => by
    by_cases z : sgn f n q ∈ opsJ j
    · rw [lp_s z] at e
      cases hr : g (q + 1) with
      | mk o q2 =>
        rw [hr] at e
        cases o with
        | none => exact absurd (congrArg Prod.fst e) (by intro q; cases q)
        | some m => exact lp_G hg k _ q2 l' q' (h.bin (hg _ _ _ hr) z) e
    · rw [lp_e (Or.inr z)] at e
      rw [Option.some.inj (congrArg Prod.fst e)] at h
      exact h
theorem lvl_G {u n : Int} {g : Int → RR} {f : Int → Int} (hg : GG u g) : ∀ j, GG u (lvl g f n j)
  | 0 => hg
  | j + 1 => fun q l q' e => by
    have e2 : andR (lvl g f n j q) (fun l q' => lp (lvl g f n j) f n j (if j = 2 then 1 else 50) l q') = (some l, q') := e
    cases hr : lvl g f n j q with
    | mk o q2 =>
      rw [hr] at e2
      cases o with
      | none => exact absurd (congrArg Prod.fst e2) (by intro q; cases q)
      | some m => exact lp_G (lvl_G hg j) _ m q2 l q' (lvl_G hg j _ _ _ hr) e2
theorem prA_G {f : Int → Int} {n u : Int} {k : Nat} {g : Int → RR} (hu : u = 0 ∨ u = 1) (hg : 0 < k → GG u g) : GG u (prA f n u k g) := fun q l q' e => by
  unfold prA at e
  by_cases z1 : 48 ≤ sgn f n q ∧ sgn f n q ≤ 57
  · rw [if_pos z1] at e
    rw [← Option.some.inj (congrArg Prod.fst e)]
    have := dg_r (f := f) (n := n) (q := q)
    exact Pg.one (by omega) (fun _ => by omega)
  rw [if_neg z1] at e
  by_cases z2 : 0 ≤ nmI u (sgn f n q)
  · rw [if_pos z2] at e
    rw [← Option.some.inj (congrArg Prod.fst e)]
    have := nmI_r (u := u) (s := sgn f n q)
    refine Pg.one (by omega) (fun z => ?_)
    intro h4
    have h3 : nmI u (sgn f n q) = 3 := by omega
    unfold nmI at h3
    rw [z] at h3
    repeat' split at h3
    all_goals omega
  rw [if_neg z2] at e
  by_cases z3 : sgn f n q = 33 ∧ 0 < k
  · rw [if_pos z3] at e
    cases hr : g (q + 1) with
    | mk o q2 =>
      rw [hr] at e
      cases o with
      | none => exact absurd (congrArg Prod.fst e) (by intro q; cases q)
      | some m =>
        rw [← Option.some.inj (congrArg Prod.fst e)]
        exact (hg z3.2 _ _ _ hr).neg
  rw [if_neg z3] at e
  by_cases z4 : sgn f n q = 40 ∧ 0 < k
  · rw [if_pos z4] at e
    cases hr : lvl g f n 5 (q + 1) with
    | mk o q2 =>
      rw [hr] at e
      cases o with
      | none => exact absurd (congrArg Prod.fst e) (by intro q; cases q)
      | some m =>
        have e2 : (if sgn f n q2 = 41 then ((some m, q2 + 1) : RR) else (none, q2)) = (some l, q') := e
        by_cases z5 : sgn f n q2 = 41
        · rw [if_pos z5] at e2
          rw [← Option.some.inj (congrArg Prod.fst e2)]
          exact lvl_G (hg z4.2) 5 _ _ _ hr
        · rw [if_neg z5] at e2
          exact absurd (congrArg Prod.fst e2) (by intro q; cases q)
  rw [if_neg z4] at e
  exact absurd (congrArg Prod.fst e) (by intro q; cases q)
theorem prS_G {f : Int → Int} {n u : Int} (hu : u = 0 ∨ u = 1) : ∀ k, GG u (prS f n u k)
  | 0 => prA_G hu (fun z => absurd z (by decide))
  | k + 1 => prA_G hu (fun _ => prS_G hu k)
theorem txt_G {f : Int → Int} {n u q : Int} {l : List Int} (hu : u = 0 ∨ u = 1) (h : txt f n u = (some l, q)) : Pg u l := lvl_G (prS_G hu 5) 5 _ _ _ h
/-- what a text is worth -/
def wth (f : Int → Int) (n u : Int) (nm : Int → Int) : Int := match (txt f n u).1 with
  | some l => (match run nm l [] with
    | some (x :: _) => x
    | _ => 0)
  | none => 0
theorem wth_of {f : Int → Int} {n u q x : Int} {nm : Int → Int} {l : List Int} (h : txt f n u = (some l, q)) (hg : run nm l [] = some [x]) : wth f n u nm = x := by
  unfold wth
  rw [h]
  show (match run nm l [] with
    | some (x :: _) => x
    | _ => 0) = x
  rw [hg]
theorem run_nm {nm nm' : Int → Int} : ∀ (l st : List Int), (∀ y ∈ l, -4 ≤ y → y < 0 → nm (-1 - y) = nm' (-1 - y)) → run nm l st = run nm' l st
  | [], st, _ => rfl
  | x :: l, st, h => by
    have ih := fun st => run_nm l st (fun y hy => h y (List.mem_cons_of_mem _ hy))
    unfold run
    by_cases z : -4 ≤ x
    · rw [if_pos z, if_pos z]
      have : itV nm x = itV nm' x := by
        unfold itV
        by_cases z2 : 0 ≤ x
        · rw [if_pos z2, if_pos z2]
        · rw [if_neg z2, if_neg z2]; exact h x List.mem_cons_self z (by omega)
      rw [this]
      exact ih _
    · rw [if_neg z, if_neg z]
      by_cases z3 : x = -33
      · rw [if_pos z3, if_pos z3]
        cases st with
        | nil => rfl
        | cons v st' => exact ih _
      · rw [if_neg z3, if_neg z3]
        cases st with
        | nil => rfl
        | cons r st' =>
          cases st' with
          | nil => rfl
          | cons v st'' => exact ih _
/-- the text of a use, as the reference keeps it -/
def tfD (D : Int → Int) (u : Int) : Int → Int := rs (D (26 + u)) (fun i => D (48 + 50 * u + i))
def TxOk (D : Int → Int) (u : Int) : Prop := (0 ≤ D (26 + u) ∧ D (26 + u) ≤ 50) ∧ (0 < D (26 + u) → (∃ l, txt (tfD D u) (D (26 + u)) u = (some l, D (26 + u))) ∧ ∀ i, 0 ≤ i → i < D (26 + u) → 0 ≤ D (48 + 50 * u + i) ∧ D (48 + 50 * u + i) < 256)
/-- what a use gives ahead of being held -/
def gvv (D : Int → Int) (u a b c d : Int) : Int := if 0 < D (26 + u) then wth (tfD D u) (D (26 + u)) u (nmF a b c d) else if u = 0 then a + b + c else 1
def giv (D : Int → Int) (u a b c d : Int) : Int := if u = 0 then heldF (op_irem (gvv D u a b c d) 3) 0 2 else heldF (gvv D u a b c d) (-99) 99
theorem nmF_r {a b c d : Int} (ha : R32 a) (hb : R32 b) (hc : R32 c) (hd : R32 d) (k : Int) : R32 (nmF a b c d k) := by
  unfold nmF
  repeat' split
  all_goals assumption
theorem heldF_r {v lo hi : Int} (h : lo ≤ hi) : lo ≤ heldF v lo hi ∧ heldF v lo hi ≤ hi := by
  unfold heldF
  repeat' split
  all_goals omega
theorem gvv_r {D : Int → Int} {u a b c d : Int} (hu : u = 0 ∨ u = 1) (hT : TxOk D u) (ha : R32 a) (hb : R32 b) (hc : R32 c) (hd : R32 d) (h : 0 < D (26 + u)) : R32 (gvv D u a b c d) ∧ ∃ l, txt (tfD D u) (D (26 + u)) u = (some l, D (26 + u)) ∧ Pg u l ∧ run (nmF a b c d) l [] = some [gvv D u a b c d] := by
  obtain ⟨l, hl⟩ := (hT.2 h).1
  have hG := txt_G hu hl
  obtain ⟨x, hx, hxr⟩ := hG.1 (nmF a b c d) (nmF_r ha hb hc hd)
  have e : gvv D u a b c d = x := by unfold gvv; rw [if_pos h]; exact wth_of hl hx.all
  rw [e]
  exact ⟨hxr, l, hl, hG, hx.all⟩
/-- of the first use the fourth name is none -/
theorem gvv_0 {D : Int → Int} {a b c d d' : Int} (hT : TxOk D 0) (ha : R32 a) (hb : R32 b) (hc : R32 c) (hd : R32 d) (hd' : R32 d') : gvv D 0 a b c d = gvv D 0 a b c d' := by
  by_cases h : 0 < D (26 + 0)
  · obtain ⟨_, l, hl, hG, hr⟩ := gvv_r (Or.inl rfl) hT ha hb hc hd h
    obtain ⟨_, l', hl', hG', hr'⟩ := gvv_r (Or.inl rfl) hT ha hb hc hd' h
    rw [hl] at hl'
    have e : l = l' := Option.some.inj (congrArg Prod.fst hl')
    rw [← e] at hr'
    have hn : run (nmF a b c d) l [] = run (nmF a b c d') l [] := run_nm l [] (fun y hy h1 h2 => by
      have h4 := (hG.2 y hy).2 rfl
      unfold nmF
      repeat' split
      all_goals first | rfl | omega)
    rw [hr, hr'] at hn
    have := Option.some.inj hn
    exact List.head_eq_of_cons_eq this
  · unfold gvv
    rw [if_neg h, if_neg h]
theorem op_irem3 (v : Int) : -2 ≤ op_irem v 3 ∧ op_irem v 3 ≤ 2 := by
  have hd : (Int32.ofInt v / Int32.ofInt 3).toInt = (Int32.ofInt v).toInt.tdiv 3 := by
    rw [Int32.toInt_div_of_ne_right _ _ (by decide)]
    rfl
  have hr := op_r (Int32.ofInt v)
  generalize hx : Int32.ofInt v = x at *
  have h3 : x / Int32.ofInt 3 = Int32.ofInt (x.toInt.tdiv 3) := by
    rw [← hd, Int32.ofInt_toInt]
  have hxx : x = Int32.ofInt x.toInt := (Int32.ofInt_toInt x).symm
  have h4 : x.toInt - x.toInt.tdiv 3 * 3 = x.toInt.tmod 3 := by
    have := Int.mul_tdiv_add_tmod x.toInt 3
    rw [Int.mul_comm] at this
    omega
  have h5 : x.toInt.tmod 3 < 3 := Int.tmod_lt_of_pos _ (by decide)
  have h6 : -3 < x.toInt.tmod 3 := by
    have := Int.lt_tmod_of_pos x.toInt (b := 3) (by decide)
    exact this
  have e : op_irem v 3 = x.toInt.tmod 3 := by
    unfold op_irem
    rw [hx, h3]
    conv => lhs; rw [hxx]
    rw [← Int32.ofInt_mul, ← Int32.ofInt_sub]
    rw [Int32.toInt_ofInt_of_le (by rw [Int32.ofInt_toInt, h4]; omega) (by rw [Int32.ofInt_toInt, h4]; omega), Int32.ofInt_toInt, h4]
  rw [e]
  omega
