/-! ===== texts: what they are, what they are worth ===== -/
def sgn (f : Int → Int) (n q : Int) : Int := if q < n then f q else -1
def opsJ (j : Nat) : List Int := match j with
  | 0 => [42, 47, 37]
  | 1 => [43, 45]
  | 2 => [60, 61, 62]
  | 3 => [38]
  | _ => [124]
abbrev RR : Type := Option (List Int) × Int
def andR (r : RR) (h : List Int → Int → RR) : RR := match r with
  | (some l, q) => h l q
  | (none, q) => (none, q)
def lp (g : Int → RR) (f : Int → Int) (n : Int) (j : Nat) : Nat → List Int → Int → RR
  | 0, l, q => (some l, q)
  | k + 1, l, q => if sgn f n q ∈ opsJ j then andR (g (q + 1)) (fun m q' => lp g f n j k (l ++ m ++ [-(sgn f n q)]) q') else (some l, q)
def lvl (g : Int → RR) (f : Int → Int) (n : Int) : Nat → Int → RR
  | 0, q => g q
  | j + 1, q => andR (lvl g f n j q) (fun l q' => lp (lvl g f n j) f n j (if j = 2 then 1 else 50) l q')
def dg (f : Int → Int) (n : Int) : Nat → Int → Int → Int × Int
  | 0, v, q => (v, q)
  | k + 1, v, q => if 48 ≤ sgn f n q ∧ sgn f n q ≤ 57 then dg f n k (v * 10 + sgn f n q - 48) (q + 1) else (v, q)
def nmI (u s : Int) : Int := if s = 97 then 0 else if s = 98 then 1 else if u = 1 then (if s = 107 then 2 else if s = 116 then 3 else -1) else (if s = 109 then 2 else -1)
def prA (f : Int → Int) (n u : Int) (k : Nat) (g : Int → RR) (q : Int) : RR :=
  if 48 ≤ sgn f n q ∧ sgn f n q ≤ 57 then (some [(dg f n 4 0 q).1], (dg f n 4 0 q).2)
  else if 0 ≤ nmI u (sgn f n q) then (some [-1 - nmI u (sgn f n q)], q + 1)
  else if sgn f n q = 33 ∧ 0 < k then andR (g (q + 1)) (fun l q' => (some (l ++ [-33]), q'))
  else if sgn f n q = 40 ∧ 0 < k then andR (lvl g f n 5 (q + 1)) (fun l q' => if sgn f n q' = 41 then (some l, q' + 1) else (none, q'))
  else (none, q)
def prS (f : Int → Int) (n u : Int) : Nat → Int → RR
  | 0 => prA f n u 0 (fun q => (none, q))
  | k + 1 => prA f n u (k + 1) (prS f n u k)
/-- the whole text -/
def txt (f : Int → Int) (n u : Int) : RR := lvl (prS f n u 5) f n 5 0
/-- where it ends, and how many it is worked out of -/
def Bd (n : Int) (g : Int → RR) : Prop := ∀ q, 0 ≤ q → q ≤ n → match g q with
  | (some l, q') => 1 ≤ l.length ∧ q + l.length ≤ q' ∧ q' ≤ n
  | (none, q') => q ≤ q' ∧ q' ≤ n
theorem Bd.ok {n : Int} {g : Int → RR} (h : Bd n g) {q q' : Int} {l : List Int} (h0 : 0 ≤ q) (h1 : q ≤ n) (e : g q = (some l, q')) : 1 ≤ l.length ∧ q + l.length ≤ q' ∧ q' ≤ n := by
  have := h q h0 h1
  rw [e] at this
  exact this
theorem Bd.no {n : Int} {g : Int → RR} (h : Bd n g) {q q' : Int} (h0 : 0 ≤ q) (h1 : q ≤ n) (e : g q = (none, q')) : q ≤ q' ∧ q' ≤ n := by
  have := h q h0 h1
  rw [e] at this
  exact this
theorem sgn_in {f : Int → Int} {n q : Int} (h : sgn f n q ≠ -1) : q < n ∧ sgn f n q = f q := by
  unfold sgn at h ⊢
  split
  · next z => exact ⟨z, rfl⟩
  · next z => rw [if_neg z] at h; exact absurd rfl h
theorem ops_pos {j : Nat} {s : Int} (h : s ∈ opsJ j) : 37 ≤ s ∧ s ≤ 124 := by
  unfold opsJ at h
  split at h <;> simp at h <;> omega
/-- a result's bounds, told of a result -/
def RB (n q : Int) (r : RR) : Prop := match r with
  | (some l, q') => 1 ≤ l.length ∧ q + l.length ≤ q' ∧ q' ≤ n
  | (none, q') => q ≤ q' ∧ q' ≤ n
theorem lp_B {n : Int} {g : Int → RR} {f : Int → Int} {j : Nat} (hg : Bd n g) : ∀ (k : Nat) (l : List Int) (q q0 : Int), 0 ≤ q0 → q ≤ n → 1 ≤ l.length → q0 + l.length ≤ q → RB n q0 (lp g f n j k l q)
  | 0, l, q, q0, h0, h1, h2, h3 => ⟨h2, h3, h1⟩
  | k + 1, l, q, q0, h0, h1, h2, h3 => by
    show RB n q0 (if sgn f n q ∈ opsJ j then andR (g (q + 1)) (fun m q' => lp g f n j k (l ++ m ++ [-(sgn f n q)]) q') else (some l, q))
    split
    · next z =>
      have hz := ops_pos z
      have hq := (sgn_in (f := f) (n := n) (q := q) (by omega)).1
      generalize hr : g (q + 1) = r
      obtain ⟨o, q'⟩ := r
      cases o with
      | none =>
        have := hg.no (by omega) (by omega) hr
        exact ⟨by omega, by omega⟩
      | some m =>
        have := hg.ok (by omega) (by omega) hr
        refine lp_B hg k _ q' q0 h0 (by omega) ?_ ?_
        · simp only [List.length_append, List.length_cons, List.length_nil]
          omega
        · simp only [List.length_append, List.length_cons, List.length_nil]
          omega
    · exact ⟨h2, h3, h1⟩
theorem lvl_B {n : Int} {g : Int → RR} {f : Int → Int} (hg : Bd n g) : ∀ j : Nat, Bd n (lvl g f n j)
  | 0 => hg
  | j + 1 => by
    intro q h0 h1
    have ih := lvl_B (f := f) hg j
    show RB n q (andR (lvl g f n j q) (fun l q' => lp (lvl g f n j) f n j (if j = 2 then 1 else 50) l q'))
    generalize hr : lvl g f n j q = r
    obtain ⟨o, q'⟩ := r
    cases o with
    | none => exact ih.no h0 h1 hr
    | some m =>
      have := ih.ok h0 h1 hr
      exact lp_B ih _ m q' q h0 (by omega) (by omega) (by omega)
theorem dg_B {f : Int → Int} {n : Int} : ∀ (k : Nat) (v q : Int), q ≤ n → q ≤ (dg f n k v q).2 ∧ (dg f n k v q).2 ≤ n
  | 0, v, q, h => ⟨Int.le_refl _, h⟩
  | k + 1, v, q, h => by
    show q ≤ (if 48 ≤ sgn f n q ∧ sgn f n q ≤ 57 then dg f n k (v * 10 + sgn f n q - 48) (q + 1) else (v, q)).2 ∧ (if 48 ≤ sgn f n q ∧ sgn f n q ≤ 57 then dg f n k (v * 10 + sgn f n q - 48) (q + 1) else (v, q)).2 ≤ n
    split
    · next z =>
      have hq := (sgn_in (f := f) (n := n) (q := q) (by omega)).1
      have := dg_B (f := f) (n := n) k (v * 10 + sgn f n q - 48) (q + 1) (by omega)
      omega
    · exact ⟨Int.le_refl _, h⟩
theorem dg_4 {f : Int → Int} {n q : Int} (hq : q ≤ n) (h : 48 ≤ sgn f n q ∧ sgn f n q ≤ 57) : q + 1 ≤ (dg f n 4 0 q).2 ∧ (dg f n 4 0 q).2 ≤ n := by
  have hq := (sgn_in (f := f) (n := n) (q := q) (by omega)).1
  show q + 1 ≤ (if 48 ≤ sgn f n q ∧ sgn f n q ≤ 57 then dg f n 3 (0 * 10 + sgn f n q - 48) (q + 1) else (0, q)).2 ∧ (if 48 ≤ sgn f n q ∧ sgn f n q ≤ 57 then dg f n 3 (0 * 10 + sgn f n q - 48) (q + 1) else (0, q)).2 ≤ n
  rw [if_pos h]
  exact dg_B (f := f) (n := n) 3 _ (q + 1) (by omega)
theorem dg_v {f : Int → Int} {n : Int} : ∀ (k : Nat) (v q : Int) (m : Int), 0 ≤ v → v < m → 0 ≤ (dg f n k v q).1 ∧ (dg f n k v q).1 < m * 10 ^ k
  | 0, v, q, m, h0, h1 => ⟨h0, by show v < m * 10 ^ 0; omega⟩
  | k + 1, v, q, m, h0, h1 => by
    show 0 ≤ (if 48 ≤ sgn f n q ∧ sgn f n q ≤ 57 then dg f n k (v * 10 + sgn f n q - 48) (q + 1) else (v, q)).1 ∧ (if 48 ≤ sgn f n q ∧ sgn f n q ≤ 57 then dg f n k (v * 10 + sgn f n q - 48) (q + 1) else (v, q)).1 < m * 10 ^ (k + 1)
    have e : m * (10 : Int) ^ (k + 1) = (m * 10) * 10 ^ k := by rw [Int.pow_succ, Int.mul_assoc, Int.mul_comm (10 ^ k) 10]
    split
    · have := dg_v (f := f) (n := n) k (v * 10 + sgn f n q - 48) (q + 1) (m * 10) (by omega) (by omega)
      rw [e]
      exact this
    · refine ⟨h0, ?_⟩
      show v < m * 10 ^ (k + 1)
      rw [e]
      have h10 : (1 : Int) ≤ 10 ^ k := Int.pow_pos (by decide)
      have : m * 10 * 1 ≤ m * 10 * 10 ^ k := Int.mul_le_mul_of_nonneg_left h10 (by omega)
      omega
theorem dg_r {f : Int → Int} {n q : Int} : 0 ≤ (dg f n 4 0 q).1 ∧ (dg f n 4 0 q).1 < 10000 := dg_v 4 0 q 1 (by decide) (by decide)
theorem nmI_r {u s : Int} : -1 ≤ nmI u s ∧ nmI u s ≤ 3 ∧ (0 ≤ nmI u s → 97 ≤ s ∧ s ≤ 116) := by
  unfold nmI
  split
  · omega
  · split
    · omega
    · split
      · split
        · omega
        · split <;> omega
      · split <;> omega
theorem prA_B {f : Int → Int} {n u : Int} {k : Nat} {g : Int → RR} (hg : 0 < k → Bd n g) : Bd n (prA f n u k g) := by
  intro q h0 h1
  show RB n q (prA f n u k g q)
  unfold prA
  split
  · next z =>
    have := dg_4 h1 z
    exact ⟨by show 1 ≤ 1; omega, by show q + 1 ≤ _; omega, this.2⟩
  · split
    · next z =>
      have hz := (nmI_r (u := u) (s := sgn f n q)).2.2 z
      have hq := (sgn_in (f := f) (n := n) (q := q) (by omega)).1
      exact ⟨by show 1 ≤ 1; omega, by show q + 1 ≤ _; omega, by omega⟩
    · split
      · next z =>
        have hq := (sgn_in (f := f) (n := n) (q := q) (by omega)).1
        generalize hr : g (q + 1) = r
        obtain ⟨o, q'⟩ := r
        cases o with
        | none =>
          have := (hg z.2).no (by omega) (by omega) hr
          exact ⟨by omega, by omega⟩
        | some m =>
          have := (hg z.2).ok (by omega) (by omega) hr
          refine ⟨?_, ?_, this.2.2⟩
          · simp
          · simp only [List.length_append, List.length_cons, List.length_nil]
            omega
      · split
        · next z =>
          have hq := (sgn_in (f := f) (n := n) (q := q) (by omega)).1
          have hB := lvl_B (f := f) (hg z.2) 5
          generalize hr : lvl g f n 5 (q + 1) = r
          obtain ⟨o, q'⟩ := r
          cases o with
          | none =>
            have := hB.no (by omega) (by omega) hr
            exact ⟨by omega, by omega⟩
          | some m =>
            have := hB.ok (by omega) (by omega) hr
            show RB n q (if sgn f n q' = 41 then (some m, q' + 1) else (none, q'))
            split
            · next y =>
              have hq := (sgn_in (f := f) (n := n) (q := q') (by omega)).1
              exact ⟨this.1, by omega, by omega⟩
            · exact ⟨by omega, by omega⟩
        · exact ⟨Int.le_refl _, h1⟩
theorem prS_B {f : Int → Int} {n u : Int} : ∀ k : Nat, Bd n (prS f n u k)
  | 0 => prA_B (fun z => absurd z (by decide))
  | k + 1 => prA_B (fun _ => prS_B k)
/-! what code is worth -/
def jn (s l r : Int) : Int :=
  if s = 124 then (if l ≠ 0 ∨ r ≠ 0 then 1 else 0) else if s = 38 then (if l ≠ 0 ∧ r ≠ 0 then 1 else 0)
  else if s = 60 then (if l < r then 1 else 0) else if s = 61 then (if l = r then 1 else 0) else if s = 62 then (if r < l then 1 else 0)
  else if s = 43 then sx (l + r) else if s = 45 then sx (l - r) else if s = 42 then sx (l * r)
  else if r = 0 then 0 else if s = 47 then op_idiv l r else op_irem l r
def itV (nm : Int → Int) (x : Int) : Int := if 0 ≤ x then x else nm (-1 - x)
def run (nm : Int → Int) : List Int → List Int → Option (List Int)
  | [], st => some st
  | x :: l, st => if -4 ≤ x then run nm l (itV nm x :: st) else if x = -33 then (match st with
      | v :: st' => run nm l ((if v = 0 then 1 else 0) :: st')
      | [] => none) else (match st with
      | r :: v :: st' => run nm l (jn (-x) v r :: st')
      | _ => none)
def Good (nm : Int → Int) (l : List Int) (x : Int) : Prop := ∀ rest st, run nm (l ++ rest) st = run nm rest (x :: st)
theorem Good.one {nm : Int → Int} {x : Int} (h : -4 ≤ x) : Good nm [x] (itV nm x) := fun rest st => by
  show (if -4 ≤ x then run nm rest (itV nm x :: st) else _) = _
  rw [if_pos h]
theorem Good.neg {nm : Int → Int} {l : List Int} {x : Int} (h : Good nm l x) : Good nm (l ++ [-33]) (if x = 0 then 1 else 0) := fun rest st => by
  rw [List.append_assoc, h]
  rfl
theorem Good.bin {nm : Int → Int} {l m : List Int} {x y s : Int} (h : Good nm l x) (g : Good nm m y) (hs : 37 ≤ s) : Good nm (l ++ m ++ [-s]) (jn s x y) := fun rest st => by
  rw [List.append_assoc, List.append_assoc, h, g]
  show (if -4 ≤ -s then _ else if -s = -33 then _ else run nm rest (jn (- -s) x y :: st)) = _
  rw [if_neg (by omega), if_neg (by omega), Int.neg_neg]
theorem Good.all {nm : Int → Int} {l : List Int} {x : Int} (h : Good nm l x) : run nm l [] = some [x] := by
  have := h [] []
  rw [List.append_nil] at this
  exact this
theorem Good.uniq {nm : Int → Int} {l : List Int} {x y : Int} (h : Good nm l x) (g : run nm l [] = some [y]) : y = x := by
  rw [h.all] at g
  have := (Option.some.inj g)
  have h2 := List.head_eq_of_cons_eq this
  exact h2.symm
theorem op_r (x : Int32) : -2147483648 ≤ x.toInt ∧ x.toInt < 2147483648 := ⟨Int32.le_toInt x, Int32.toInt_lt x⟩
theorem jn_r {s l r : Int} : -2147483648 ≤ jn s l r ∧ jn s l r < 2147483648 := by
  have a1 := sx_lt (l + r)
  have a2 := sx_lt (l - r)
  have a3 := sx_lt (l * r)
  have a4 : -2147483648 ≤ op_idiv l r ∧ op_idiv l r < 2147483648 := op_r _
  have a5 : -2147483648 ≤ op_irem l r ∧ op_irem l r < 2147483648 := op_r _
  unfold jn
  repeat' split
  all_goals omega
/-- code written at a place of a row -/
def cw (f : Int → Int) (s : Int) : List Int → Int → Int
  | [] => f
  | x :: l => cw (up f s x) (s + 1) l
theorem cw_app : ∀ (l m : List Int) (f : Int → Int) (s : Int), cw f s (l ++ m) = cw (cw f s l) (s + l.length) m
  | [], m, f, s => by
    show cw f s m = cw f (s + (0 : Nat)) m
    rw [show s + ((0 : Nat) : Int) = s by omega]
  | x :: l, m, f, s => by
    show cw (up f s x) (s + 1) (l ++ m) = cw (cw (up f s x) (s + 1) l) (s + (x :: l).length) m
    rw [cw_app l m, show s + 1 + (l.length : Int) = s + ((x :: l).length : Nat) by simp only [List.length_cons]; omega]
theorem cw_lt : ∀ (l : List Int) (f : Int → Int) (s i : Int), i < s → cw f s l i = f i
  | [], f, s, i, h => rfl
  | x :: l, f, s, i, h => by
    show cw (up f s x) (s + 1) l i = f i
    rw [cw_lt l _ _ i (by omega), up_ne (by omega)]
theorem cw_at : ∀ (l : List Int) (f : Int → Int) (s : Int) (j : Nat) (x : Int), l[j]? = some x → cw f s l (s + j) = x
  | [], f, s, j, x, h => by simp at h
  | y :: l, f, s, 0, x, h => by
    show cw (up f s y) (s + 1) l (s + (0 : Nat)) = x
    rw [cw_lt l _ _ _ (by omega), show s + ((0 : Nat) : Int) = s by omega, up_self]
    simpa using h
  | y :: l, f, s, j + 1, x, h => by
    show cw (up f s y) (s + 1) l (s + (j + 1 : Nat)) = x
    rw [show s + ((j + 1 : Nat) : Int) = s + 1 + (j : Int) by omega]
    exact cw_at l _ _ j x (by simpa using h)
