/-! ===== the pure picture: ints and longs are whole numbers, references are numbers (0: null), the heap is two maps ===== -/
abbrev PV : Type := Option (Int ⊕ (Int ⊕ Nat))
abbrev vU : PV := none
abbrev vI (n : Int) : PV := some (Sum.inl n)
abbrev vL (n : Int) : PV := some (Sum.inr (Sum.inl n))
abbrev vR (a : Nat) : PV := some (Sum.inr (Sum.inr a))
/-- addresses of old cells, class numbers and slots, the base: where new cells begin -/
abbrev Gh : Type := (Nat → Nat) × va_G × Nat
def gB (γ : Gh) : Nat := γ.2.2
def gD (γ : Gh) : va_G := γ.2.1
def ad (γ : Gh) (a : Nat) : Nat := if a < 100 then γ.1 a else gB γ + (a - 100)
def cR (γ : Gh) (a : Nat) : Value := if a = 0 then .null else .ref (ad γ a)
def cV (γ : Gh) (v : PV) : Value := match v with
  | some (.inl n) => .int (Int32.ofInt n)
  | some (.inr (.inl n)) => .long (Int64.ofInt n)
  | some (.inr (.inr a)) => cR γ a
  | none => .null
/-- kind and length of each cell; what references it holds; how many numbers are given out -/
abbrev Sk : Type := (Nat → Nat × Nat) × (Nat → Int → Nat) × Nat
abbrev Mm : Type := Nat → Int → Int
/-- kinds: 1 int[], 2 long[], 3 boolean[], 4 byte[], 5 Law[], 6 Text[], 7 Row[]; 10 and on: objects of a class -/
def aTy (k : Nat) : FieldType := match k with
  | 1 => .int
  | 2 => .long
  | 3 => .boolean
  | 4 => .byte
  | 5 => .object "GreenPath$Law"
  | 6 => .object "GreenPath$Text"
  | _ => .object "GreenPath$Row"
def eV (γ : Gh) (K : Sk) (V : Mm) (k a : Nat) (j : Int) : Value := match k with
  | 1 => .int (Int32.ofInt (V a j))
  | 2 => .long (Int64.ofInt (V a j))
  | 3 => .int (Int32.ofInt (V a j))
  | 4 => .int (Int32.ofInt (V a j))
  | _ => cR γ (K.2.1 a j)
def fty (ci k : Nat) : FieldType := match ci with
  | 0 => tyX0 k
  | 1 => tyX1 k
  | 2 => tyX2 k
  | 3 => tyX3 k
  | 4 => tyX4 k
  | 5 => tyX5 k
  | 6 => tyX6 k
  | 7 => tyX7 k
  | 8 => tyX8 k
  | 9 => tyX9 k
  | 10 => tyX10 k
  | 11 => tyX11 k
  | _ => tyX12 k
def fV (γ : Gh) (K : Sk) (V : Mm) (ty : FieldType) (a : Nat) (j : Int) : Value := match ty with
  | .object _ => cR γ (K.2.1 a j)
  | .array _ => cR γ (K.2.1 a j)
  | .long => .long (Int64.ofInt (V a j))
  | _ => .int (Int32.ofInt (V a j))
/-- an array of kind k and length n stands there -/
def aO (γ : Gh) (K : Sk) (V : Mm) (a : Nat) (U : State) (H : Heap) (k n : Nat) : Prop :=
  n < 2 ^ 31 ∧ ∃ cell : Cell, H[ad γ a]? = some cell ∧ U.isArrayOf cell (aTy k) ∧ cell.vm ≠ .unknown ∧ n ≤ cell.slots.size ∧ cell.slots.size.toInt32 = Int32.ofNat n ∧ (∀ j : Nat, j < n → cell.slots[j]? = some (eV γ K V k a j)) ∧ (5 ≤ k → va_RA U cell.cls (aTy k)) ∧ (100 ≤ a → ∃ f, cell = arrV cell.cls n f)
/-- an object of class ci stands there -/
def oO (γ : Gh) (K : Sk) (V : Mm) (a : Nat) (H : Heap) (ci : Nat) : Prop :=
  ∃ r : vw_C, vwCl[ci]? = some r ∧ t_OB (ad γ a) ((gD γ).1 ci) r.2.2 ((gD γ).2 ci) H (fun j => fV γ K V (fty ci j) a j)
/-- a String constant stands there: its coder, its bytes -/
def tO (γ : Gh) (K : Sk) (V : Mm) (a : Nat) (U : State) (H : Heap) : Prop :=
  va_O "java/lang/String" (ad γ a) (fun _ => False) U H ∧ va_OF "java/lang/String" "coder" "B" (.int (Int32.ofInt (V a 0))) (ad γ a) (fun _ => False) U H ∧ va_OF "java/lang/String" "value" "[B" (cR γ (K.2.1 a 1)) (ad γ a) (fun _ => False) U H
def cO (γ : Gh) (K : Sk) (V : Mm) (a : Nat) (U : State) (H : Heap) : Prop :=
  (1 ≤ (K.1 a).1 → (K.1 a).1 ≤ 7 → aO γ K V a U H (K.1 a).1 (K.1 a).2) ∧ (10 ≤ (K.1 a).1 → oO γ K V a H ((K.1 a).1 - 10)) ∧ ((K.1 a).1 = 8 → tO γ K V a U H)
/-- static fields that nobody writes -/
def stL : List (String × String × String × PV) := [("GreenPath", "LESSER", "[I", vR 1), ("GreenPath", "GREATER", "[I", vR 2), ("GreenPath", "WEIGHT", "[I", vR 3), ("GreenPath$Search", "AHEAD", "[I", vR 4), ("GreenPath$Search", "WITHOUT", "[J", vR 5), ("java/lang/String", "COMPACT_STRINGS", "Z", vI 1)]
def sO (γ : Gh) (U : State) (H : Heap) : Prop := ∀ q ∈ stL, va_Z q.1 q.2.1 q.2.2.1 (cV γ q.2.2.2) (fun x => gB γ ≤ x) U H
def Hp (γ : Gh) (K : Sk) (V : Mm) (U : State) (H : Heap) : Prop :=
  (∀ a, cO γ K V a U H) ∧ H.size = gB γ + (K.2.2 - 100) ∧ 100 ≤ K.2.2 ∧ (∀ a, K.2.2 ≤ a → (K.1 a).1 = 0) ∧ (∀ a, a < 100 → (K.1 a).1 ≠ 0 → γ.1 a < gB γ) ∧ (K.1 0).1 = 0 ∧ sO γ U H
/-! what the tables say: words of nest mates, classes, array classes, what is no subclass -/
def isNw (w : Cond) : Bool := match w with
  | .fieldLinkNest .. => true
  | .methodLinkNest .. => true
  | .castable .. => true
  | _ => false
def nwL : List Cond := tables_1.filter isNw
theorem Nw_warm {w : Cond} {s U : State} (h : isNw w = true) (hW : s.WarmedH U.vm) (hw : va_Nw w s) : va_Nw w U := by
  cases w <;> first | exact va_Nw.warmF hW hw | exact va_Nw.warmM hW hw | exact va_Nw.warmC hW hw | (simp [isNw] at h)
/-- the String constants: class, entry, text, number -/
def strL : List (String × Nat × String × Nat) := [("GreenPath", 133, "abm", 10), ("GreenPath", 135, "abkt", 11), ("GreenPath$Text", 51, "|", 12), ("GreenPath$Text", 53, "&", 13), ("GreenPath$Text", 55, "<=>", 14), ("GreenPath$Text", 57, "+-", 15), ("GreenPath$Text", 59, "*/%", 16)]
def Wl (γ : Gh) (U : State) : Prop := (∀ q ∈ strL, vk_R q.1 q.2.1 q.2.2.1 (ad γ q.2.2.2) U) ∧ va_K (gD γ) vwCl [] U ∧ (∀ w ∈ nwL, va_Nw w U) ∧ va_AO "GreenPath$Law" U ∧ va_AO "GreenPath$Text" U ∧ va_AO "GreenPath$Row" U ∧ ∀ C T : String, Cond.not (.castable C T) ∈ flatC narrow_1 → va_Nc C T U
theorem Wl.warm {γ : Gh} {s U : State} (h : Wl γ s) (hW : s.WarmedH U.vm) : Wl γ U :=
  ⟨fun q hq => (h.1 q hq).warm hW, va_K.moved hW.alike h.2.1, fun w hw => Nw_warm (List.mem_filter.mp hw).2 hW (h.2.2.1 w hw), h.2.2.2.1.moved hW.alike, h.2.2.2.2.1.moved hW.alike, h.2.2.2.2.2.1.moved hW.alike, fun C T hc => (h.2.2.2.2.2.2 C T hc).moved hW.alike⟩
theorem aO.moved {γ : Gh} {K : Sk} {V : Mm} {a : Nat} {u U : State} {H : Heap} {k n : Nat} (hvm : u.vm.Alike U.vm) (h : aO γ K V a u H k n) : aO γ K V a U H k n := by
  obtain ⟨h0, cell, h1, h2, h3, h4, h5, h6, h7, h8⟩ := h
  exact ⟨h0, cell, h1, State.isArrayOf_alike hvm h2, h3, h4, h5, h6, fun z => (h7 z).moved hvm, h8⟩
theorem Hp.moved {γ : Gh} {K : Sk} {V : Mm} {u U : State} {H : Heap} (hvm : u.vm.Alike U.vm) (h : Hp γ K V u H) : Hp γ K V U H :=
  ⟨fun a => ⟨fun z1 z2 => ((h.1 a).1 z1 z2).moved hvm, (h.1 a).2.1, fun z => ⟨((h.1 a).2.2 z).1.moved hvm, ((h.1 a).2.2 z).2.1.moved hvm, ((h.1 a).2.2 z).2.2.moved hvm⟩⟩, h.2.1, h.2.2.1, h.2.2.2.1, h.2.2.2.2.1, h.2.2.2.2.2.1, fun q hq => va_Z.moved hvm (h.2.2.2.2.2.2 q hq)⟩
/-! ===== locals ===== -/
def lvr (γ : Gh) (nL : Nat) (ls : List PV) (als : Array Slot) : Prop := als.size = nL ∧ lv_wf als ∧ ∀ (i : Nat) (v : Int ⊕ (Int ⊕ Nat)), ls[i]? = some (some v) → als[i]? = some (.val (cV γ (some v)))
def toA (γ : Gh) (ls : List PV) : List (Nat × Value) := (List.range ls.length).filterMap fun i => match ls[i]? with
  | some (some v) => some (i, cV γ (some v))
  | _ => none
theorem mem_toA {γ : Gh} {ls : List PV} {q : Nat × Value} : q ∈ toA γ ls ↔ ∃ v, ls[q.1]? = some (some v) ∧ q.2 = cV γ (some v) := by
  unfold toA
  rw [List.mem_filterMap]
  constructor
  · rintro ⟨i, hi, h⟩
    split at h
    · next v hv =>
      cases h
      exact ⟨v, hv, rfl⟩
    · cases h
  · rintro ⟨v, hv, h2⟩
    refine ⟨q.1, List.mem_range.mpr (List.getElem?_eq_some_iff.mp hv).1, ?_⟩
    rw [hv]
    simp [← h2]
theorem lvr.has {γ : Gh} {nL : Nat} {ls : List PV} {als : Array Slot} (h : lvr γ nL ls als) : lv_has als nL (toA γ ls) := by
  refine ⟨h.1, h.2.1, fun q hq => ?_⟩
  obtain ⟨v, h1, h2⟩ := mem_toA.mp hq
  rw [h2]
  exact h.2.2 _ _ h1
def clrL (ls : List PV) (i : Nat) : List PV := match i with
  | 0 => ls
  | j + 1 => match ls[j]? with
    | some (some (.inr (.inl _))) => ls.set j none
    | _ => ls
/-- a value of one slot is stored; of two slots -/
def st1 (ls : List PV) (i : Nat) (v : PV) : List PV := (clrL ls i).set i v
def st2 (ls : List PV) (i : Nat) (v : PV) : List PV := ((clrL ls i).set i v).set (i + 1) none
theorem clrL_keep {ls : List PV} {i j : Nat} {v : Int ⊕ (Int ⊕ Nat)} (h : (clrL ls i)[j]? = some (some v)) : ls[j]? = some (some v) ∧ ¬ (j + 1 = i ∧ ∃ n, v = .inr (.inl n)) := by
  unfold clrL at h
  split at h
  · exact ⟨h, fun q => by omega⟩
  · next k =>
    split at h
    · next n hn =>
      by_cases hj : k = j
      · subst hj
        rw [List.getElem?_set] at h
        simp at h
      · rw [List.getElem?_set_ne hj] at h
        exact ⟨h, fun q => hj (by omega)⟩
    · next hno =>
      refine ⟨h, fun ⟨q1, n, q2⟩ => ?_⟩
      have : j = k := by omega
      subst this
      subst q2
      exact hno n h
theorem cV_cat {γ : Gh} {v : Int ⊕ (Int ⊕ Nat)} (h : (cV γ (some v)).category = 2) : ∃ n, v = .inr (.inl n) := by
  rcases v with n | n | a
  · simp [cV, Value.category] at h
  · exact ⟨n, rfl⟩
  · simp only [cV, cR] at h
    split at h <;> simp [Value.category] at h
theorem lvr_st1 {γ : Gh} {nL i : Nat} {ls : List PV} {als : Array Slot} {v : PV} {x : Value} (hx : x = cV γ v) (h : lv_has als nL ((i, x) :: (toA γ ls).filter (fun q => !(q.1 == i) && !(q.1 + 1 == i && q.2.category == 2)))) : lvr γ nL (st1 ls i v) als := by
  refine ⟨h.1, h.2.1, fun j w hj => ?_⟩
  unfold st1 at hj
  by_cases hji : i = j
  · subst hji
    rw [List.getElem?_set] at hj
    simp at hj
    have := h.2.2 _ List.mem_cons_self
    rw [← hj.2, ← hx]
    exact this
  · rw [List.getElem?_set_ne hji] at hj
    obtain ⟨h1, h2⟩ := clrL_keep hj
    refine h.2.2 (j, cV γ (some w)) (List.mem_cons_of_mem _ (List.mem_filter.mpr ⟨mem_toA.mpr ⟨w, h1, rfl⟩, ?_⟩))
    simp only [Bool.and_eq_true, Bool.not_eq_true', beq_eq_false_iff_ne, Bool.and_eq_false_iff, beq_eq_false_iff_ne]
    refine ⟨fun q => hji q.symm, ?_⟩
    by_cases hq : j + 1 = i
    · right
      intro hc
      exact h2 ⟨hq, cV_cat hc⟩
    · exact Or.inl hq
theorem lvr_st2 {γ : Gh} {nL i : Nat} {ls : List PV} {als : Array Slot} {v : PV} {x : Value} (hx : x = cV γ v) (h : lv_has als nL ((i, x) :: (toA γ ls).filter (fun q => !(q.1 == i) && (!(q.1 == i + 1) && !(q.1 + 1 == i && q.2.category == 2))))) : lvr γ nL (st2 ls i v) als := by
  refine ⟨h.1, h.2.1, fun j w hj => ?_⟩
  unfold st2 at hj
  by_cases hj1 : i + 1 = j
  · subst hj1
    rw [List.getElem?_set] at hj
    simp at hj
  · rw [List.getElem?_set_ne hj1] at hj
    by_cases hji : i = j
    · subst hji
      rw [List.getElem?_set] at hj
      simp at hj
      have := h.2.2 _ List.mem_cons_self
      rw [← hj.2, ← hx]
      exact this
    · rw [List.getElem?_set_ne hji] at hj
      obtain ⟨h1, h2⟩ := clrL_keep hj
      refine h.2.2 (j, cV γ (some w)) (List.mem_cons_of_mem _ (List.mem_filter.mpr ⟨mem_toA.mpr ⟨w, h1, rfl⟩, ?_⟩))
      simp only [Bool.and_eq_true, Bool.not_eq_true', beq_eq_false_iff_ne, Bool.and_eq_false_iff, beq_eq_false_iff_ne]
      refine ⟨fun q => hji q.symm, fun q => hj1 q.symm, ?_⟩
      by_cases hq : j + 1 = i
      · right
        intro hc
        exact h2 ⟨hq, cV_cat hc⟩
      · exact Or.inl hq
/-! ===== the judgements ===== -/
/-- a method: name, bytes, locals, what it returns -/
abbrev MX : Type := MethodName × ByteArray × Nat × Option FieldType
def rmr (d mc ms : Nat) : Room := { frames := d, cells := mc, slots := ms, locals := 64 * d }
def wsM (X : MX) : List Cond := Cond.code X.1 X.2.1 X.2.2.1 X.2.2.2 :: tb
def Qr (γ : Gh) (Q : Option PV → Sk → Mm → Prop) : Array Value → State → Outcome → State → Prop := fun _ _ o t => ∃ (v : Option PV) (K : Sk) (V : Mm), o = .returned (v.map (cV γ)) ∧ Q v K V ∧ Hp γ K V t t.heap
def Cx (γ : Gh) (X : MX) (p : Program) (s : State) (m : MethodId) (args : Array Value) (meth : Method) (c : Code) : Prop :=
  p.tables.exec = Jvm.exec ∧ c.code = X.2.1 ∧ c.maxLocals = X.2.2.1 ∧ s.vm.findClass X.1.cls = some m.cls ∧ (∀ w ∈ tb, w.before args s = true) ∧ meth.sig.returnType = X.2.2.2 ∧ meth.locks = false ∧ meth.name = X.1.name ∧ Wl γ s
/-- the frame that stands at pc with these locals and this stack over this heap comes to its end, and what it answers and leaves has Q; d: how deep it may call; mc, ms: how many cells and slots it may still make -/
def Ev (γ : Gh) (X : MX) (d mc ms pc : Nat) (ls st : List PV) (K : Sk) (V : Mm) (Q : Option PV → Sk → Mm → Prop) : Prop :=
  ∀ (p : Program) (l : Launch) (e : Env) (s : State) (m : MethodId) (args : Array Value) (below : List Frame) (meth : Method) (c : Code) (H : Heap) (locs : List Loc) (als : Array Slot) (cells slots TC TS : Nat),
    Cx γ X p s m args meth c → Hp γ K V s H → lvr γ X.2.2.1 ls als → (∀ q ∈ locs, gB γ ≤ q.base) → cells + mc ≤ TC → slots + ms ≤ TS →
    W p l e (rmr d TC TS) s m args below meth c H locs cells slots (MQ below (Qr γ Q) args s TC TS (fun q => gB γ ≤ q)) (F0 m pc als (st.map (cV γ)))
/-- a call's contract -/
def Call (γ : Gh) (X : MX) (d mc ms : Nat) (as : List PV) (K : Sk) (V : Mm) (Q : Option PV → Sk → Mm → Prop) : Prop :=
  ∀ l : Launch, Met l X.1 (wsM X) (rmr d mc ms) (va_Pc (as.map (cV γ)) (fun U => Wl γ U ∧ Hp γ K V U U.heap)) (Qr γ Q) mc ms (fun q => gB γ ≤ q)
/-- it answers r and leaves K, V -/
def Rt (r : Option PV) (K : Sk) (V : Mm) : Option PV → Sk → Mm → Prop := fun r' K' V' => r' = r ∧ K' = K ∧ V' = V
/-- the locals with which a method begins -/
def ent : List PV → List PV
  | [] => []
  | v :: vs => match v with
    | some (.inr (.inl n)) => some (.inr (.inl n)) :: none :: ent vs
    | w => w :: ent vs
theorem ent_lv (γ : Gh) : ∀ (as : List PV), (∀ v ∈ as, v ≠ none) → ∀ (i0 i : Nat) (v : Int ⊕ (Int ⊕ Nat)), (ent as)[i]? = some (some v) → (i0 + i, cV γ (some v)) ∈ lv_args i0 (as.map (cV γ))
  | [], _, i0, i, v, h => by simp [ent] at h
  | a :: as, hn, i0, i, v, h => by
    have ih := ent_lv γ as (fun v hv => hn v (List.mem_cons_of_mem _ hv))
    rcases a with _ | n | n | x
    · exact absurd rfl (hn none List.mem_cons_self)
    · simp only [ent] at h
      cases i with
      | zero =>
        simp at h
        subst h
        simp [lv_args]
      | succ i =>
        simp at h
        have := ih (i0 + 1) i v h
        have hc : (cV γ (some (Sum.inl n))).category = 1 := rfl
        simp only [List.map_cons, lv_args]
        rw [if_neg (by rw [hc]; decide)]
        refine List.mem_cons_of_mem _ ?_
        rw [show i0 + (i + 1) = i0 + 1 + i by omega]
        exact this
    · simp only [ent] at h
      cases i with
      | zero =>
        simp at h
        subst h
        simp [lv_args]
      | succ i =>
        cases i with
        | zero => simp at h
        | succ i =>
          simp at h
          have := ih (i0 + 2) i v h
          have hc : (cV γ (some (Sum.inr (Sum.inl n)))).category = 2 := rfl
          simp only [List.map_cons, lv_args]
          rw [if_pos hc]
          refine List.mem_cons_of_mem _ ?_
          rw [show i0 + (i + 1 + 1) = i0 + 2 + i by omega]
          exact this
    · simp only [ent] at h
      cases i with
      | zero =>
        simp at h
        subst h
        simp [lv_args]
      | succ i =>
        simp at h
        have := ih (i0 + 1) i v h
        have hc : (cV γ (some (Sum.inr (Sum.inr x)))).category = 1 := by
          simp only [cV, cR]
          split <;> rfl
        simp only [List.map_cons, lv_args]
        rw [if_neg (by rw [hc]; decide)]
        refine List.mem_cons_of_mem _ ?_
        rw [show i0 + (i + 1) = i0 + 1 + i by omega]
        exact this
theorem entryFrame_eq (m : MethodId) (as : List Value) (n : Nat) : entryFrame m as.toArray n = F0 m 0 ((lg_sl as ++ List.replicate (n - (lg_sl as).length) Slot.unset).toArray) [] := by
  rw [lg_entry_eq]
theorem sl_len (γ : Gh) : ∀ as : List PV, (∀ v ∈ as, v ≠ none) → (lg_sl (as.map (cV γ))).length = (ent as).length
  | [], _ => rfl
  | a :: as, hn => by
    have ih := sl_len γ as (fun v hv => hn v (List.mem_cons_of_mem _ hv))
    rcases a with _ | n | n | x
    · exact absurd rfl (hn none List.mem_cons_self)
    · simp [lg_sl, ent, cV, Value.category] at ih ⊢
      exact ih
    · simp [lg_sl, ent, cV, Value.category] at ih ⊢
      omega
    · have hc : (cV γ (some (Sum.inr (Sum.inr x)))).category = 1 := by
        simp only [cV, cR]
        split <;> rfl
      simp [lg_sl, ent, hc] at ih ⊢
      exact ih
def pad (n : Nat) (l : List PV) : List PV := l ++ List.replicate (n - l.length) none
theorem pad_at {n i : Nat} {l : List PV} {v : Int ⊕ (Int ⊕ Nat)} (h : (pad n l)[i]? = some (some v)) : l[i]? = some (some v) := by
  unfold pad at h
  by_cases hi : i < l.length
  · rw [List.getElem?_append_left hi] at h
    exact h
  · rw [List.getElem?_append_right (by omega)] at h
    obtain ⟨h1, h2⟩ := List.getElem?_eq_some_iff.mp h
    simp at h2
/-- a method's body gives its contract -/
theorem call_of {γ : Gh} {X : MX} {d mc ms : Nat} {as : List PV} {K : Sk} {V : Mm} {Q : Option PV → Sk → Mm → Prop} (hp : plainName X.1.cls = true) (hn : ∀ v ∈ as, v ≠ none) (hl : (ent as).length ≤ X.2.2.1) (h : Ev γ X d mc ms 0 (pad X.2.2.1 (ent as)) [] K V Q) : Call γ X d mc ms as K V Q := by
  intro l
  refine Met.ofW (cc := X.2.1) (maxL := X.2.2.1) (ret := X.2.2.2) (ws' := tb) hp rfl ?_
  intro p e s m args below meth c s₁ B hml hv
  obtain ⟨rfl, hw, hh⟩ := hv
  have hts := atoms_spec (ws := wsM X) B.pre
  have hlv := lv_entry (as.map (cV γ)) (n := X.2.2.1) (by rw [sl_len γ as hn]; exact hl)
  rw [entryFrame_eq]
  refine h p l e s m _ below meth c s.heap [] _ 0 0 mc ms ⟨B.exec, B.bytes, hml, findClass_of_methodNamed B.named, fun w hw => hts w (List.mem_cons_of_mem _ hw), B.returns, B.notSynchronized, (name_of_methodNamed B.named B.method).1, hw⟩ hh ⟨hlv.1, hlv.2.1, fun i v hi => ?_⟩ (fun q hq => by cases hq) (by omega) (by omega)
  have := hlv.2.2 _ (ent_lv γ as hn 0 i v (pad_at hi))
  rw [Nat.zero_add] at this
  exact this
