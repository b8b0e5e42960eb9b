theorem okT_all : ∀ (ci : Nat) (r : vw_C), vwCl[ci]? = some r → ∀ k, k < r.2.2 → fty ci k = .int ∨ fty ci k = .boolean ∨ isRT (fty ci k) = true := by
  intro ci r h
  match ci, h with
  | 0, h => cases h; decide +kernel
  | 1, h => cases h; decide +kernel
  | 2, h => cases h; decide +kernel
  | 3, h => cases h; decide +kernel
  | 4, h => cases h; decide +kernel
  | 5, h => cases h; decide +kernel
  | 6, h => cases h; decide +kernel
  | 7, h => cases h; decide +kernel
  | 8, h => cases h; decide +kernel
  | 9, h => cases h; decide +kernel
  | 10, h => cases h; decide +kernel
  | 11, h => cases h; decide +kernel
  | 12, h => cases h; decide +kernel
  | k + 13, h => simp at h
section HR2
variable {γ : Gh} {X : MX} {d mc ms pc : Nat} {ls st : List PV} {K : Sk} {V : Mm} {Q : Option PV → Sk → Mm → Prop}
/-- the heap has one cell more -/
theorem Hp.new {U : State} {H H' : Heap} {k n : Nat} (h : Hp γ K V U H) (hz : H'.size = H.size + 1) (ho : ∀ q, q < H.size → H'[q]? = H[q]?) (hc : cO γ (nwK K k n) (nwV K V) K.2.2 U H') : Hp γ (nwK K k n) (nwV K V) U H' := by
  have h100 := h.2.2.1
  have hsz := h.2.1
  have hkey : ∀ b, (K.1 b).1 ≠ 0 → ad γ b < H.size := by
    intro b hb
    rw [hsz]
    unfold ad
    by_cases h1 : b < 100
    · rw [if_pos h1]
      have := h.2.2.2.2.1 b h1 hb
      omega
    · rw [if_neg h1]
      have := h.lt hb
      omega
  refine ⟨fun b => ?_, ?_, ?_, ?_, ?_, ?_, ?_⟩
  · by_cases hb : b = K.2.2
    · subst hb
      exact hc
    · refine (h.1 b).kept ?_ ?_ ?_ (fun hk => ho _ (hkey b hk))
      · simp [nwK, hb]
      · intro j; simp [nwK, setr, hb]
      · intro j; simp [nwV, setr, hb]
  · rw [hz, hsz]
    show _ = gB γ + (K.2.2 + 1 - 100)
    omega
  · show 100 ≤ K.2.2 + 1
    omega
  · intro b hb
    have hb' : K.2.2 + 1 ≤ b := hb
    have : b ≠ K.2.2 := by omega
    simp only [nwK, if_neg this]
    exact h.2.2.2.1 b (by omega)
  · intro b hb1 hb2
    have : b ≠ K.2.2 := by omega
    simp only [nwK, if_neg this] at hb2
    exact h.2.2.2.2.1 b hb1 hb2
  · have : (0 : Nat) ≠ K.2.2 := by omega
    simp only [nwK, if_neg this]
    exact h.2.2.2.2.2.1
  · intro q hq
    refine (h.2.2.2.2.2.2 q hq).kept (fun x h1 h2 => ho x h1)
theorem Hp.nextAd {U : State} {H : Heap} (h : Hp γ K V U H) : cV γ (vR K.2.2) = .ref H.size := by
  have h100 := h.2.2.1
  rw [cV_ref (by omega), h.2.1]
  unfold ad
  rw [if_neg (by omega)]
theorem ev_new {index ci n : Nat} {r : vw_C} (hd : decode X.2.1 pc = .ok (.new index, 3)) (hcl : vwCl[ci]? = some r) (w1 : Cond.classLink X.1.cls index r.1 ∈ tb) (w2 : Cond.instantiable r.1 n ∈ tb) (w3 : Cond.initialized r.1 ∈ tb) (kk : Ev γ X d mc ms (pc + 3) ls (vR K.2.2 :: st) (nwK K (ci + 10) 0) (nwV K V) Q) : Ev γ X d (mc + 1) (ms + n) pc ls st K V Q := by
  intro p l e s m args below meth c H locs als cells slots TC TS hc hh hl hf h1 h2
  have hts := hc.2.2.2.2.1
  have hKn := hc.2.2.2.2.2.2.2.2.2.1.1 ci _ hcl
  obtain ⟨hin, hnm, hty⟩ := clW ci r hcl
  refine W.newcK hc.1 hc.2.1 hc.2.2.2.1 (hts _ w1) (hts _ w2) (hts _ w3) rfl hd (show cells + 1 ≤ TC by omega) (show slots + n ≤ TS by omega) hKn.2.1 rfl fun H' kC hkC x1 x2 x3 => ?_
  have hnew : Hp γ (nwK K (ci + 10) 0) (nwV K V) s H' := by
    refine hh.new x2 x3 ⟨fun z1 z2 => ?_, fun z1 => ?_, fun z1 => by simp [nwK] at z1; try omega⟩
    · simp [nwK] at z2
    · have e0 : ((nwK K (ci + 10) 0).1 K.2.2).1 - 10 = ci := by simp [nwK]
      rw [e0]
      have hb := u_born (fty ci) hts hin hKn hkC x1 hty
      have ha : ad γ K.2.2 = H.size := by
        have := hh.nextAd
        have h100 := hh.2.2.1
        rw [cV_ref (by omega)] at this
        exact Value.ref.inj this
      refine ⟨r, hcl, ?_⟩
      rw [ha]
      refine hb.to (fun k hk => ?_)
      have ht := okT_all ci r hcl k hk
      generalize fty ci k = ty at ht ⊢
      have e1 : (nwK K (ci + 10) 0).2.1 K.2.2 k = 0 := by simp [nwK, setr]
      have e2 : nwV K V K.2.2 k = 0 := by simp [nwV, setr]
      cases ty <;> first | (simp [isRT] at ht; done) | (simp only [fV, e1, e2, cR]; rfl)
  have := kk p l e s m args below meth c H' locs als (cells + 1) (slots + n) TC TS hc hnew hl hf (by omega) (by omega)
  simp only [List.map_cons, hh.nextAd] at this
  exact this
/-- the kinds of arrays of numbers -/
def aDef (k : Nat) : Value := match k with
  | 2 => .long 0
  | _ => .int 0
theorem ev_newarray {k : Nat} {n : Int} {at' : ArrayType} (hd : decode X.2.1 pc = .ok (.newarray at', 2)) (hk1 : 1 ≤ k) (hk3 : k ≤ 3) (hty : newarray.typeOf at' = aTy k) (w1 : Cond.arrayClass (aTy k) ∈ tb) (hn : 0 ≤ n ∧ n ≤ 1000000) (kk : Ev γ X d mc ms (pc + 2) ls (vR K.2.2 :: st) (nwK K k n.toNat) (nwV K V) Q) : Ev γ X d (mc + 1) (ms + n.toNat) pc ls (vI n :: st) K V Q := by
  intro p l e s m args below meth c H locs als cells slots TC TS hc hh hl hf h1 h2
  have hts := hc.2.2.2.2.1
  have hr : 0 ≤ n ∧ n < 2147483648 := by omega
  have hcb : componentBytes (aTy k) ≤ 8 := by
    rcases (show k = 1 ∨ k = 2 ∨ k = 3 by omega) with rfl | rfl | rfl <;> decide
  refine va_newaK (N := n.toNat) (n := Int32.ofInt n) hc.1 hc.2.1 (by rw [hty]; exact hts _ w1) rfl hd rfl (i_nneg hr) (i_clamp hr) (by rw [hty]; exact Nat.le_trans (Nat.mul_le_mul_left _ hcb) (by omega)) (show cells + 1 ≤ TC by omega) (show slots + n.toNat ≤ TS by omega) rfl fun H' cA x1 x2 x3 hA hF => ?_
  rw [hty] at x1 hA
  have hnew : Hp γ (nwK K k n.toNat) (nwV K V) s H' := by
    refine hh.new x2 x3 ⟨fun z1 z2 => ?_, fun z1 => ?_, fun z1 => by simp [nwK] at z1; try omega⟩
    · have e0 : (nwK K k n.toNat).1 K.2.2 = (k, n.toNat) := by simp [nwK]
      rw [e0]
      show aO γ (nwK K k n.toNat) (nwV K V) K.2.2 s H' k n.toNat
      have ha : ad γ K.2.2 = H.size := by
        have := hh.nextAd
        have h100 := hh.2.2.1
        rw [cV_ref (by omega)] at this
        exact Value.ref.inj this
      refine ⟨by omega, _, by rw [ha]; exact x1, hA _ _, (fun h => by cases h), by rw [arrV_size]; exact Nat.le_refl _, by rw [arrV_size]; first | done | rfl, fun j hj => ?_, fun z => (by have z' : 5 ≤ k := z; omega), fun _ => ⟨_, rfl⟩⟩
      rw [arrV_read _ _ hj]
      have e2 : nwV K V K.2.2 j = 0 := by simp [nwV, setr]
      show some (defaultValue (aTy k)) = some (eV γ _ (nwV K V) k K.2.2 j)
      rcases (show k = 1 ∨ k = 2 ∨ k = 3 by omega) with rfl | rfl | rfl <;> simp only [eV, e2] <;> rfl
    · simp [nwK] at z1
      omega
  have := kk p l e s m args below meth c H' locs als (cells + 1) (slots + n.toNat) TC TS hc hnew hl hf (by omega) (by omega)
  simp only [List.map_cons, hh.nextAd] at this
  exact this
theorem ev_anewarray {k index : Nat} {n : Int} {C : String} (hd : decode X.2.1 pc = .ok (.anewarray index, 3)) (hk5 : 5 ≤ k) (hk7 : k ≤ 7) (hty : aTy k = .object C) (w1 : Cond.classLink X.1.cls index C ∈ tb) (w2 : ∀ U : State, Wl γ U → va_AO C U) (hn : 0 ≤ n ∧ n ≤ 1000000) (kk : Ev γ X d mc ms (pc + 3) ls (vR K.2.2 :: st) (nwK K k n.toNat) (nwV K V) Q) : Ev γ X d (mc + 1) (ms + n.toNat) pc ls (vI n :: st) K V Q := by
  intro p l e s m args below meth c H locs als cells slots TC TS hc hh hl hf h1 h2
  have hts := hc.2.2.2.2.1
  have hr : 0 ≤ n ∧ n < 2147483648 := by omega
  refine W.anew (n := Int32.ofInt n) hc.1 hc.2.1 hc.2.2.2.1 (hts _ w1) (va_AO.use (w2 s hc.2.2.2.2.2.2.2.2)) rfl hd rfl (i_nneg hr) (by rw [i_clamp hr]; omega) (show cells + 1 ≤ TC by omega) (show slots + _ ≤ TS by rw [i_clamp hr]; omega) fun cA kA comp f1 f2 f3 f4 => ?_
  rw [i_clamp hr]
  have hnew : Hp γ (nwK K k n.toNat) (nwV K V) s (H.push ({ cls := cA, slots := Array.replicate n.toNat .null, vm := .none } : Cell)) := by
    refine hh.new (Array.size_push ..) (fun q hq => by rw [Array.getElem?_push, if_neg (Nat.ne_of_lt hq)]) ⟨fun z1 z2 => ?_, fun z1 => ?_, fun z1 => by simp [nwK] at z1; omega⟩
    · have e0 : (nwK K k n.toNat).1 K.2.2 = (k, n.toNat) := by simp [nwK]
      rw [e0]
      show aO γ (nwK K k n.toNat) (nwV K V) K.2.2 s _ k n.toNat
      have ha : ad γ K.2.2 = H.size := by
        have := hh.nextAd
        have h100 := hh.2.2.1
        rw [cV_ref (by omega)] at this
        exact Value.ref.inj this
      refine ⟨by omega, ({ cls := cA, slots := Array.replicate n.toNat .null, vm := .none } : Cell), by rw [ha, Array.getElem?_push_size], ?_, (fun h => by cases h), by simp, by simp, fun j hj => ?_, fun z => ?_, fun _ => ⟨_, arrV_new _ _ _⟩⟩
      · show State.isArrayOf s _ (aTy k)
        rw [hty]
        exact ⟨(fun k h => by cases h), kA, f2, comp, f3⟩
      · have hj' : j < n.toNat := hj
        have e1 : (nwK K k n.toNat).2.1 K.2.2 j = 0 := by simp [nwK, setr]
        have e5 : eV γ (nwK K k n.toNat) (nwV K V) k K.2.2 j = cR γ ((nwK K k n.toNat).2.1 K.2.2 j) := by
          unfold eV
          split <;> first | omega | rfl
        show (Array.replicate n.toNat Value.null)[j]? = some (eV γ _ (nwV K V) k K.2.2 j)
        rw [e5, e1]
        simp [hj', cR]
      · show va_RA s cA (aTy k)
        rw [hty]
        exact ⟨kA, comp, f2, f3, f4, f1⟩
    · simp [nwK] at z1
      omega
  have := kk p l e s m args below meth c _ locs als (cells + 1) (slots + n.toNat) TC TS hc hnew hl hf (by omega) (by omega)
  simp only [List.map_cons, hh.nextAd] at this
  exact this
theorem Hp.recv {s : State} {H : Heap} (h : Hp γ K V s H) (hw : Wl γ s) {a ci : Nat} {r : vw_C} (hs : (K.1 a).1 = ci + 10) (hcl : vwCl[ci]? = some r) : ∃ cell : Cell, H[ad γ a]? = some cell ∧ cell.vm.isStatics = false ∧ s.vm.findClass r.1 = some cell.cls := by
  obtain ⟨r', g1, cell, q1, q2, q3, q4⟩ := h.obj hs
  cases hcl.symm.trans g1
  exact ⟨cell, q1, by rw [q3]; rfl, by rw [q2]; exact (hw.2.1.1 ci _ hcl).2.1⟩
/-- an object of class ci may stand in an array of kind k -/
def asgW (k ci : Nat) : Prop := ∃ r : vw_C, vwCl[ci]? = some r ∧ (aTy k = .object r.1 ∨ ∃ E, aTy k = .object E ∧ Cond.castable r.1 E ∈ nwL)
theorem ev_aastore {a k n b : Nat} {i : Int} (hd : decode X.2.1 pc = .ok (.aastore, 1)) (ha : 100 ≤ a) (hs : K.1 a = (k, n)) (hk5 : 5 ≤ k) (hk7 : k ≤ 7) (hi : 0 ≤ i ∧ i < n) (hb : b = 0 ∨ ∃ ci, (K.1 b).1 = ci + 10 ∧ asgW k ci) (kk : Ev γ X d mc ms (pc + 1) ls st (wrR K a i b) V Q) : Ev γ X d mc ms pc ls (vR b :: vI i :: vR a :: st) K V Q := by
  intro p l e s m args below meth c H locs als cells slots TC TS hc hh hl hf h1 h2
  show W _ _ _ _ _ _ _ _ _ _ _ _ _ _ _ (F0 m pc als (cV γ (vR b) :: .int (Int32.ofInt i) :: cV γ (vR a) :: st.map (cV γ)))
  rw [cV_ref (a := a) (hh.ne0 (by rw [hs]; show k ≠ 0; omega))]
  obtain ⟨cell, g1, g2, g3, g4, g5⟩ := (hh.arr hs (by omega) hk7).at hi
  obtain ⟨f0, cell', f1, f2, f3, f4, f5, f6, f7, f8⟩ := hh.arr hs (by omega) hk7
  cases g1.symm.trans f1
  have hw := hc.2.2.2.2.2.2.2.2
  have eR : ∀ (K : Sk) (j : Int), eV γ K V k a j = cR γ (K.2.1 a j) := by
    intro K j
    unfold eV
    split <;> first | omega | rfl
  have key : ∀ (H' : Heap), H'[ad γ a]? = some (cell.setSlot (Int32.ofInt i).toNatClampNeg (cV γ (vR b))) → H'.size = H.size → (∀ q, q ≠ ad γ a → H'[q]? = H[q]?) → Hp γ (wrR K a i b) V s H' := by
    intro H' x1 x2 x3
    refine hh.upd ha rfl rfl (fun c hb j => wrR_ne (fun q => hb q.1)) (fun _ _ _ => rfl) x2 x3 ⟨fun z1 z2 => ?_, fun z1 => ?_, fun z1 => by
      have z1' : (K.1 a).1 = 8 := z1
      rw [hs] at z1'
      have : k = 8 := z1'
      omega⟩
    · show aO γ (wrR K a i b) V a s H' (K.1 a).1 (K.1 a).2
      rw [hs]
      refine aO.put f0 f2 f3 f4 f5 f6 f7 f8 hi x1 (fun j => ?_)
      show eV γ (wrR K a i b) V k a j = if (j : Int) = i then _ else eV γ K V k a j
      rw [eR, eR]
      by_cases hj : (j : Int) = i
      · rw [if_pos hj, hj, wrR_self]; rfl
      · rw [if_neg hj, wrR_ne (fun q => hj q.2)]
    · have z1' : 10 ≤ (K.1 a).1 := z1
      rw [hs] at z1'
      have : 10 ≤ k := z1'
      omega
  rcases hb with rfl | ⟨ci, hb1, r, hb2, hb3⟩
  · have hC : ∃ C, aTy k = .object C := by
      rcases (show k = 5 ∨ k = 6 ∨ k = 7 by omega) with rfl | rfl | rfl <;> exact ⟨_, rfl⟩
    obtain ⟨C, hC⟩ := hC
    rw [hC] at g2
    rw [cV_null] at key ⊢
    refine va_WaastN hc.1 hc.2.1 g1 g2 g3 g4 rfl rfl hd fun H' x1 x2 x3 => ?_
    exact kk p l e s m args below meth c H' _ als cells slots TC TS hc (key H' x1 x2 x3) hl (locs_put hf ha) h1 h2
  · have hb0 : b ≠ 0 := hh.ne0 (by omega)
    obtain ⟨cv, v1, v2, v3⟩ := hh.recv hw hb1 hb2
    have hRA := f7 hk5
    rw [cV_ref hb0] at key ⊢
    obtain ⟨kv, hkv, -⟩ := Vm.findClass_spec v3
    have hE : ∃ E comp kA, aTy k = .object E ∧ s.vm.classes[cell.cls]? = some kA ∧ kA.kind = .array comp (.object E) ∧ s.vm.findClass E = some comp ∧ s.vm.assignable cv.cls comp = true := by
      rcases hb3 with h3 | ⟨E, h3, h4⟩
      · rw [h3] at hRA
        obtain ⟨kA, comp, r1, r2, r3, r4⟩ := hRA
        refine ⟨r.1, comp, kA, h3, r1, r2, r3, ?_⟩
        have e1 : comp = cv.cls := Option.some.inj (r3.symm.trans v3)
        have e2 : (gD γ).1 ci = cv.cls := Option.some.inj ((hw.2.1.1 ci _ hb2).2.1.symm.trans v3)
        have q := va_assign (hw.2.1.1 ci _ hb2).2
        rw [e2] at q
        rw [e1]
        exact q
      · rw [h3] at hRA
        obtain ⟨kA, comp, r1, r2, r3, r4⟩ := hRA
        obtain ⟨c0, t0, y1, y2, y3⟩ := Cond.castable_spec (va_Nw.use (A := args) rfl (hw.2.2.1 _ h4))
        have e1 : c0 = cv.cls := Option.some.inj (y1.symm.trans v3)
        have e2 : t0 = comp := Option.some.inj (y2.symm.trans r3)
        rw [e1, e2] at y3
        exact ⟨E, _, kA, h3, r1, r2, r3, y3⟩
    obtain ⟨E, comp, kA, e1, e2, e3, e4, e5⟩ := hE
    obtain ⟨kE, hkE, -⟩ := Vm.findClass_spec e4
    refine W.aast hc.1 hc.2.1 g1 g2.1 g3 e2 e3 rfl hkE ⟨fun q => g4 (Or.inl q), Nat.not_le.mp fun q => g4 (Or.inr q)⟩ v1 (fun q h => by rw [h] at v2; cases v2) hkv e5 rfl rfl hd fun H' x1 x2 x3 => ?_
    exact kk p l e s m args below meth c H' _ als cells slots TC TS hc (key H' x1 x2 x3) hl (locs_put hf ha) h1 h2
/-! statics -/
theorem ev_gets {index : Nat} {q : String × String × String × PV} (hd : decode X.2.1 pc = .ok (.getstatic index, 3)) (hq : q ∈ stL) (w : Cond.fieldLink X.1.cls index q.1 q.2.1 q.2.2.1 ∈ tb) (kk : Ev γ X d mc ms (pc + 3) ls (q.2.2.2 :: st) K V Q) : Ev γ X d mc ms pc ls st K V Q := by
  intro p l e s m args below meth c H locs als cells slots TC TS hc hh hl hf h1 h2
  obtain ⟨cf, kf, fi, f, a, cell, y1, y2, y3, y4, y5, y6, y7, y8⟩ := hh.2.2.2.2.2.2 q hq
  exact W.gets hc.1 hc.2.1 hc.2.2.2.1 (hc.2.2.2.2.1 _ w) y1 y2 y3 y4 y5 (fun e => by rw [e] at y6; cases y6) y7 rfl hd (kk p l e s m args below meth c H locs als cells slots TC TS hc hh hl hf h1 h2)
theorem ev_getsN {index : Nat} {q : String × String × String × PV} {host : String} (hd : decode X.2.1 pc = .ok (.getstatic index, 3)) (hq : q ∈ stL) (w : Cond.fieldLinkNest X.1.cls index q.1 q.2.1 q.2.2.1 host ∈ nwL) (kk : Ev γ X d mc ms (pc + 3) ls (q.2.2.2 :: st) K V Q) : Ev γ X d mc ms pc ls st K V Q := by
  intro p l e s m args below meth c H locs als cells slots TC TS hc hh hl hf h1 h2
  obtain ⟨cf, kf, fi, f, a, cell, y1, y2, y3, y4, y5, y6, y7, y8⟩ := hh.2.2.2.2.2.2 q hq
  exact va_WgetsN hc.1 hc.2.1 hc.2.2.2.1 (va_Nw.use rfl (hc.2.2.2.2.2.2.2.2.2.2.1 _ w)) y1 y2 y3 y4 y5 (fun e => by rw [e] at y6; cases y6) y7 rfl hd (kk p l e s m args below meth c H locs als cells slots TC TS hc hh hl hf h1 h2)
/-! instanceof -/
theorem ev_instY {index ci a : Nat} {r : vw_C} {nm : String} (hd : decode X.2.1 pc = .ok (.instanceof index, 3)) (hcl : vwCl[ci]? = some r) (hs : (K.1 a).1 = ci + 10) (w1 : Cond.classLink X.1.cls index nm ∈ tb) (w2 : Cond.castable r.1 nm ∈ nwL) (kk : Ev γ X d mc ms (pc + 3) ls (vI 1 :: st) K V Q) : Ev γ X d mc ms pc ls (vR a :: st) K V Q := by
  intro p l e s m args below meth c H locs als cells slots TC TS hc hh hl hf h1 h2
  show W _ _ _ _ _ _ _ _ _ _ _ _ _ _ _ (F0 m pc als (cV γ (vR a) :: st.map (cV γ)))
  rw [cV_ref (hh.ne0 (by omega))]
  exact va_instY hc.1 hc.2.1 hc.2.2.2.1 (hc.2.2.2.2.1 _ w1) (hc.2.2.2.2.2.2.2.2.2.2.1 _ w2) (hh.recv hc.2.2.2.2.2.2.2.2 hs hcl) hd (kk p l e s m args below meth c H locs als cells slots TC TS hc hh hl hf h1 h2)
theorem ev_instS {index ci a : Nat} {r : vw_C} (hd : decode X.2.1 pc = .ok (.instanceof index, 3)) (hcl : vwCl[ci]? = some r) (hs : (K.1 a).1 = ci + 10) (w1 : Cond.classLink X.1.cls index r.1 ∈ tb) (kk : Ev γ X d mc ms (pc + 3) ls (vI 1 :: st) K V Q) : Ev γ X d mc ms pc ls (vR a :: st) K V Q := by
  intro p l e s m args below meth c H locs als cells slots TC TS hc hh hl hf h1 h2
  show W _ _ _ _ _ _ _ _ _ _ _ _ _ _ _ (F0 m pc als (cV γ (vR a) :: st.map (cV γ)))
  rw [cV_ref (hh.ne0 (by omega))]
  exact va_instS hc.1 hc.2.1 hc.2.2.2.1 (hc.2.2.2.2.1 _ w1) (hc.2.2.2.2.2.2.2.2.2.1.1 ci _ hcl).2 (hh.recv hc.2.2.2.2.2.2.2.2 hs hcl) hd (kk p l e s m args below meth c H locs als cells slots TC TS hc hh hl hf h1 h2)
theorem ev_instN {index ci a : Nat} {r : vw_C} {nm : String} (hd : decode X.2.1 pc = .ok (.instanceof index, 3)) (hcl : vwCl[ci]? = some r) (hs : (K.1 a).1 = ci + 10) (w1 : Cond.classLink X.1.cls index nm ∈ tb) (w2 : Cond.not (.castable r.1 nm) ∈ flatC narrow_1) (kk : Ev γ X d mc ms (pc + 3) ls (vI 0 :: st) K V Q) : Ev γ X d mc ms pc ls (vR a :: st) K V Q := by
  intro p l e s m args below meth c H locs als cells slots TC TS hc hh hl hf h1 h2
  show W _ _ _ _ _ _ _ _ _ _ _ _ _ _ _ (F0 m pc als (cV γ (vR a) :: st.map (cV γ)))
  rw [cV_ref (hh.ne0 (by omega))]
  exact va_instNo hc.1 hc.2.1 hc.2.2.2.1 (hc.2.2.2.2.1 _ w1) (hc.2.2.2.2.2.2.2.2.2.2.2.2.2.2 _ _ w2) (hh.recv hc.2.2.2.2.2.2.2.2 hs hcl) hd (kk p l e s m args below meth c H locs als cells slots TC TS hc hh hl hf h1 h2)
/-! ===== calls ===== -/
def pcat (v : PV) : Nat := match v with
  | some (.inr (.inl _)) => 2
  | _ => 1
theorem pcat_le (v : PV) : (cV γ v).category ≤ pcat v := by
  rcases v with _ | n | n | a
  · exact Nat.le_refl _
  · exact Nat.le_refl _
  · exact Nat.le_refl _
  · simp only [cV, cR, pcat]
    split <;> exact Nat.le_refl _
theorem pcat_sum : ∀ st : List PV, ((st.map (cV γ)).map fun v => v.category).sum ≤ (st.map pcat).sum
  | [] => Nat.le_refl _
  | v :: st => by
    have := pcat_sum st
    have := pcat_le (γ := γ) v
    simp only [List.map_cons, List.sum_cons]
    omega
/-- what a call asks of the method called -/
def mOk (Y : MX) (n : Nat) : Prop := Cond.code Y.1 Y.2.1 Y.2.2.1 Y.2.2.2 ∈ tb ∧ Cond.initialized Y.1.cls ∈ tb ∧ (Y.1.cls ≠ "java/lang/invoke/MethodHandle" ∧ Y.1.cls ≠ "java/lang/invoke/VarHandle") ∧ (parseMethodDescriptor Y.1.desc).map (fun d => d.parameters.length) = some n ∧ Y.2.2.1 ≤ 45
theorem Wl.same {U U' : State} (h : Wl γ U) (e : U.vm = U'.vm) : Wl γ U' := by
  have ha : U.vm.Alike U'.vm := by rw [e]; exact Vm.Alike.refl _
  refine ⟨fun q hq => (h.1 q hq).same e.symm, va_K.moved ha h.2.1, fun w hw => ?_, h.2.2.2.1.moved ha, h.2.2.2.2.1.moved ha, h.2.2.2.2.2.1.moved ha, fun C T hc => (h.2.2.2.2.2.2 C T hc).moved ha⟩
  have h1 := (List.mem_filter.mp hw).2
  have h2 := h.2.2.1 w hw
  refine va_Nw.same ?_ e h2
  cases w <;> first | rfl | (simp [isNw] at h1)
theorem frameBlind (as : List PV) : FrameBlind (va_Pc (as.map (cV γ)) (fun U => Wl γ U ∧ Hp γ K V U U.heap)) := by
  intro a U g mk q
  obtain ⟨q0, q1, q2⟩ := q
  exact ⟨q0, q1.same rfl, q2.moved (Vm.Alike.refl U.vm)⟩
theorem wsM_ok {s : State} {args : Array Value} {Y : MX} {n : Nat} (hy : mOk Y n) (hts : ∀ w ∈ tb, w.before args s = true) : ∀ w ∈ wsM Y, ∀ (a' : Array Value) (U : State), s.WarmedH U.vm → w.before a' U = true := by
  intro w hw a' U hW
  have : w ∈ tb := by
    rcases List.mem_cons.mp hw with h | h
    · rw [h]; exact hy.1
    · exact h
  exact word_at hW (good_of_word (tb_good w this)) (hts w this)
section RUN
variable {p : Program} {l : Launch} {e : Env} {s : State} {m : MethodId} {args : Array Value} {below : List Frame} {meth : Method} {c : Code} {H : Heap} {locs : List Loc} {als : Array Slot} {cells slots TC TS : Nat}
theorem run_ev {mc' ms' : Nat} {stk : List PV} {Q' : Option PV → Sk → Mm → Prop} {a : Array Value} (hR : va_Run p l e (rmr d TC TS) s m args below meth c H locs cells slots mc' ms' (F0 m pc als (stk.map (cV γ))) (st.map (cV γ)) (Qr γ Q' a) (fun q => gB γ ≤ q)) (hc : Cx γ X p s m args meth c) (hl : lvr γ X.2.2.1 ls als) (hf : ∀ q ∈ locs, gB γ ≤ q.base) (h1 : cells + (mc' + mc) ≤ TC) (h2 : slots + (ms' + ms) ≤ TS)
    (kk : ∀ r K' V', Q' r K' V' → Ev γ X d mc ms (pc + 3) ls (r.toList ++ st) K' V' Q) : W p l e (rmr d TC TS) s m args below meth c H locs cells slots (MQ below (Qr γ Q) args s TC TS (fun q => gB γ ≤ q)) (F0 m pc als (stk.map (cV γ))) := by
  intro T hT X1
  obtain ⟨v, st₀, t, T', L, h0, X', hL, e1, e2, ⟨r, K', V', hv, hq, hh'⟩, go⟩ := hR T hT X1
  cases hv
  have hh2 : Hp γ K' V' s T'.heap := by
    rw [e1]
    exact hh'.moved (by rw [← e2]; exact X'.warmed.alike.symm)
  obtain ⟨t2, a1, b1⟩ := kk r K' V' hq p l e s m args below meth c T'.heap (locs ++ L) als (cells + mc') (slots + ms') TC TS hc hh2 hl (fun q hq => by
    rcases List.mem_append.mp hq with h | h
    · exact hf q h
    · exact hL q h) (by omega) (by omega) T' rfl X'
  refine ⟨t2, go t2 ?_, b1⟩
  have : (r.map (cV γ)).toList ++ st.map (cV γ) = (r.toList ++ st).map (cV γ) := by cases r <;> rfl
  simp only [F0] at a1 ⊢
  rw [this]
  exact a1
theorem callB_ok {Y : MX} {n d' mc' ms' : Nat} (hy : mOk Y n) (hts : ∀ w ∈ tb, w.before args s = true) (hd' : d' < d) : (rmr d' mc' ms').cells = mc' ∧ (rmr d' mc' ms').slots = ms' ∧ (rmr d' mc' ms').frames + 1 ≤ (rmr d TC TS).frames ∧ 8 + (Y.2.2.1 + 11) + (rmr d' mc' ms').locals ≤ (rmr d TC TS).locals ∧ (∀ w ∈ wsM Y, ∀ (a' : Array Value) (U : State), s.WarmedH U.vm → w.before a' U = true) ∧ Cond.code Y.1 Y.2.1 Y.2.2.1 Y.2.2.2 ∈ wsM Y := by
  have h45 := hy.2.2.2.2
  refine ⟨rfl, rfl, ?_, ?_, wsM_ok hy hts, List.mem_cons_self⟩
  · show d' + 1 ≤ d
    omega
  · show 8 + (Y.2.2.1 + 11) + 64 * d' ≤ 64 * d
    omega
theorem sig_ok {Y : MX} {n : Nat} (hy : mOk Y n) : ∀ sig, parseMethodDescriptor Y.1.desc = some sig → n = sig.parameters.length := by
  intro sig h
  have h2 := hy.2.2.2.1
  rw [h] at h2
  exact (Option.some.inj h2).symm
end RUN
variable {Y : MX} {index n d' mc' ms' mcr msr : Nat} {As : List PV} {Q' : Option PV → Sk → Mm → Prop}
theorem ev_static (hd : decode X.2.1 pc = .ok (.invokestatic index, 3)) (hy : mOk Y n) (w1 : Cond.methodLink X.1.cls index Y.1 ∈ tb) (w2 : Cond.static Y.1 ∈ tb) (hC : Call γ Y d' mc' ms' As K V Q') {stk : List PV} (hst : stk = As.reverse ++ st) (hd' : d' < d) (hn : As.length = n) (hW : (st.map pcat).sum ≤ 8) (hmc : mc' + mcr = mc) (hms : ms' + msr = ms)
    (kk : ∀ r K' V', Q' r K' V' → Ev γ X d mcr msr (pc + 3) ls (r.toList ++ st) K' V' Q) : Ev γ X d mc ms pc ls stk K V Q := by
  intro p l e s m args below meth c H locs als cells slots TC TS hc hh hl hf h1 h2
  subst hmc; subst hms; subst hst
  have hts := hc.2.2.2.2.1
  obtain ⟨b1, b2, b3, b4, b5, b6⟩ := callB_ok (TC := TC) (TS := TS) (mc' := mc') (ms' := ms') hy hts hd'
  refine run_ev (a := (As.map (cV γ)).toArray) ?_ hc hl hf h1 h2 kk
  refine va_runS (own := X.1.cls) (Ts := tb) (n := n) (As := As.map (cV γ)) ⟨hc.1, hc.2.1, hc.2.2.1, hc.2.2.2.1, hts⟩ (hC l) ⟨⟨b1, b2, b3, b4, b5, b6, hts _ hy.1, hts _ hy.2.1, hy.2.2.1, sig_ok hy, hts _ w1⟩, hts _ w2⟩ ⟨frameBlind As, fun U hU hWm => ⟨rfl, hc.2.2.2.2.2.2.2.2.warm hWm, by rw [hU]; exact hh.moved hWm.alike⟩⟩ rfl (by rw [List.length_map]; exact hn) hl.1 (by simp [List.map_append, List.map_reverse]) (lv_room (Nat.le_trans (pcat_sum st) hW)) hd ⟨show cells + mc' ≤ TC by omega, show slots + ms' ≤ TS by omega⟩
theorem ev_staticN {host : String} (hd : decode X.2.1 pc = .ok (.invokestatic index, 3)) (hy : mOk Y n) (w1 : Cond.methodLinkNest X.1.cls index Y.1 host ∈ nwL) (w2 : Cond.static Y.1 ∈ tb) (hC : Call γ Y d' mc' ms' As K V Q') {stk : List PV} (hst : stk = As.reverse ++ st) (hd' : d' < d) (hn : As.length = n) (hW : (st.map pcat).sum ≤ 8) (hmc : mc' + mcr = mc) (hms : ms' + msr = ms)
    (kk : ∀ r K' V', Q' r K' V' → Ev γ X d mcr msr (pc + 3) ls (r.toList ++ st) K' V' Q) : Ev γ X d mc ms pc ls stk K V Q := by
  intro p l e s m args below meth c H locs als cells slots TC TS hc hh hl hf h1 h2
  subst hmc; subst hms; subst hst
  have hts := hc.2.2.2.2.1
  refine run_ev (a := (As.map (cV γ)).toArray) ?_ hc hl hf h1 h2 kk
  refine va_runSN (own := X.1.cls) (Ts := tb) (n := n) (As := As.map (cV γ)) ⟨hc.1, hc.2.1, hc.2.2.1, hc.2.2.2.1, hts⟩ (hC l) ⟨⟨callB_ok hy hts hd', hts _ hy.1, hts _ hy.2.1, hy.2.2.1, sig_ok hy, va_Nw.use rfl (hc.2.2.2.2.2.2.2.2.2.2.1 _ w1)⟩, hts _ w2, trivial⟩ ⟨frameBlind As, fun U hU hWm => ⟨rfl, hc.2.2.2.2.2.2.2.2.warm hWm, by rw [hU]; exact hh.moved hWm.alike⟩⟩ rfl (by rw [List.length_map]; exact hn) hl.1 (by simp [List.map_append, List.map_reverse]) (lv_room (Nat.le_trans (pcat_sum st) hW)) hd ⟨show cells + mc' ≤ TC by omega, show slots + ms' ≤ TS by omega⟩
theorem ev_virt {ci a : Nat} {r : vw_C} (hd : decode X.2.1 pc = .ok (.invokevirtual index, 3)) (hy : mOk Y n) (hcl : vwCl[ci]? = some r) (w1 : Cond.methodLink X.1.cls index Y.1 ∈ tb) (w2 : Cond.instanceMethod Y.1 ∈ tb) (w3 : Cond.selects r.1 Y.1 Y.1 ∈ tb) (hs : (K.1 a).1 = ci + 10) (hC : Call γ Y d' mc' ms' (vR a :: As) K V Q') {stk : List PV} (hst : stk = As.reverse ++ vR a :: st) (hd' : d' < d) (hn : As.length = n) (hW : (st.map pcat).sum ≤ 8) (hmc : mc' + mcr = mc) (hms : ms' + msr = ms)
    (kk : ∀ r K' V', Q' r K' V' → Ev γ X d mcr msr (pc + 3) ls (r.toList ++ st) K' V' Q) : Ev γ X d mc ms pc ls stk K V Q := by
  intro p l e s m args below meth c H locs als cells slots TC TS hc hh hl hf h1 h2
  subst hmc; subst hms; subst hst
  have hts := hc.2.2.2.2.1
  have ha := cV_ref (γ := γ) (hh.ne0 (a := a) (by omega))
  obtain ⟨b1, b2, b3, b4, b5, b6⟩ := callB_ok (TC := TC) (TS := TS) (mc' := mc') (ms' := ms') hy hts hd'
  refine run_ev (a := (Value.ref (ad γ a) :: As.map (cV γ)).toArray) ?_ hc hl hf h1 h2 kk
  refine va_runV (own := X.1.cls) (C := r.1) (Ts := tb) (n := n) (As := As.map (cV γ)) ⟨hc.1, hc.2.1, hc.2.2.1, hc.2.2.2.1, hts⟩ (hC l) ⟨⟨b1, b2, b3, b4, b5, b6, hts _ hy.1, hts _ hy.2.1, hy.2.2.1, sig_ok hy, hts _ w1⟩, hts _ w2, hts _ w3⟩ ⟨frameBlind _, hh.recv hc.2.2.2.2.2.2.2.2 hs hcl, fun U hU hWm => ⟨by rw [List.map_cons, ha], hc.2.2.2.2.2.2.2.2.warm hWm, by rw [hU]; exact hh.moved hWm.alike⟩⟩ rfl (by rw [List.length_map]; exact hn) hl.1 (by simp [List.map_append, List.map_reverse, ha]) (lv_room (Nat.le_trans (pcat_sum st) hW)) hd ⟨show cells + mc' ≤ TC by omega, show slots + ms' ≤ TS by omega⟩
/-- the reference names x; the receiver's class has y -/
theorem ev_virtU {ci a : Nat} {r : vw_C} {x : MethodName} {owner : String} {b0 : ByteArray} {m0 : Nat} {r0 : Option FieldType} (hd : decode X.2.1 pc = .ok (.invokevirtual index, 3)) (hy : mOk Y n) (hcl : vwCl[ci]? = some r) (w1 : Cond.methodLink X.1.cls index x ∈ tb) (w2 : Cond.instanceMethod Y.1 ∈ tb) (w3 : Cond.selects r.1 x Y.1 ∈ tb) (w4 : Cond.sameMethod x.cls owner x.name x.desc ∈ tb) (w5 : Cond.instanceMethod ⟨owner, x.name, x.desc⟩ ∈ tb) (w6 : Cond.code ⟨owner, x.name, x.desc⟩ b0 m0 r0 ∈ tb) (ho : owner ≠ "java/lang/invoke/MethodHandle" ∧ owner ≠ "java/lang/invoke/VarHandle") (hx : x.desc = Y.1.desc) (hs : (K.1 a).1 = ci + 10) (hC : Call γ Y d' mc' ms' (vR a :: As) K V Q') {stk : List PV} (hst : stk = As.reverse ++ vR a :: st) (hd' : d' < d) (hn : As.length = n) (hW : (st.map pcat).sum ≤ 8) (hmc : mc' + mcr = mc) (hms : ms' + msr = ms)
    (kk : ∀ r K' V', Q' r K' V' → Ev γ X d mcr msr (pc + 3) ls (r.toList ++ st) K' V' Q) : Ev γ X d mc ms pc ls stk K V Q := by
  intro p l e s m args below meth c H locs als cells slots TC TS hc hh hl hf h1 h2
  subst hmc; subst hms; subst hst
  have hts := hc.2.2.2.2.1
  have ha := cV_ref (γ := γ) (hh.ne0 (a := a) (by omega))
  refine run_ev (a := (Value.ref (ad γ a) :: As.map (cV γ)).toArray) ?_ hc hl hf h1 h2 kk
  refine va_runU (own := X.1.cls) (C := r.1) (owner := owner) (x := x) (Ts := tb) (n := n) (As := As.map (cV γ)) ⟨hc.1, hc.2.1, hc.2.2.1, hc.2.2.2.1, hts⟩ (hC l) ⟨callB_ok hy hts hd', hts _ hy.1, hts _ hy.2.1, ho, by rw [hx]; exact sig_ok hy, hts _ w1, hts _ w4, va_Decl.of (hts _ w5) (hts _ w6), hts _ w3, hts _ w2⟩ ⟨frameBlind _, hh.recv hc.2.2.2.2.2.2.2.2 hs hcl, fun U hU hWm => ⟨by rw [List.map_cons, ha], hc.2.2.2.2.2.2.2.2.warm hWm, by rw [hU]; exact hh.moved hWm.alike⟩⟩ rfl (by rw [List.length_map]; exact hn) hl.1 (by simp [List.map_append, List.map_reverse, ha]) (lv_room (Nat.le_trans (pcat_sum st) hW)) hd ⟨show cells + mc' ≤ TC by omega, show slots + ms' ≤ TS by omega⟩
theorem ev_init {a : Nat} (hd : decode X.2.1 pc = .ok (.invokespecial index, 3)) (hy : mOk Y n) (hr : Y.2.2.2 = none) (hnm : Y.1.name = "<init>") (w1 : Cond.methodLink X.1.cls index Y.1 ∈ tb) (w2 : Cond.instanceMethod Y.1 ∈ tb) (ha0 : a ≠ 0) (hC : Call γ Y d' mc' ms' (vR a :: As) K V Q') {stk : List PV} (hst : stk = As.reverse ++ vR a :: st) (hd' : d' < d) (hn : As.length = n) (hW : (st.map pcat).sum ≤ 8) (hmc : mc' + mcr = mc) (hms : ms' + msr = ms)
    (kk : ∀ r K' V', Q' r K' V' → Ev γ X d mcr msr (pc + 3) ls (r.toList ++ st) K' V' Q) : Ev γ X d mc ms pc ls stk K V Q := by
  intro p l e s m args below meth c H locs als cells slots TC TS hc hh hl hf h1 h2
  subst hmc; subst hms; subst hst
  have hts := hc.2.2.2.2.1
  have ha := cV_ref (γ := γ) ha0
  obtain ⟨b1, b2, b3, b4, b5, b6⟩ := callB_ok (TC := TC) (TS := TS) (mc' := mc') (ms' := ms') hy hts hd'
  have g1 := hy.1
  rw [hr] at b6 g1
  refine run_ev (a := (Value.ref (ad γ a) :: As.map (cV γ)).toArray) ?_ hc hl hf h1 h2 kk
  refine va_runI (own := X.1.cls) (Ts := tb) (n := n) (As := As.map (cV γ)) ⟨hc.1, hc.2.1, hc.2.2.1, hc.2.2.2.1, hts⟩ (hC l) ⟨⟨b1, b2, b3, b4, b5, b6, hts _ g1, hts _ hy.2.1, hy.2.2.1, sig_ok hy, hts _ w1⟩, hnm, hts _ w2⟩ ⟨frameBlind _, fun U hU hWm => ⟨by rw [List.map_cons, ha], hc.2.2.2.2.2.2.2.2.warm hWm, by rw [hU]; exact hh.moved hWm.alike⟩⟩ rfl (by rw [List.length_map]; exact hn) hl.1 (by simp [List.map_append, List.map_reverse, ha]) (lv_room (Nat.le_trans (pcat_sum st) hW)) hd ⟨show cells + mc' ≤ TC by omega, show slots + ms' ≤ TS by omega⟩
theorem ev_super {ci a : Nat} {r : vw_C} (hd : decode X.2.1 pc = .ok (.invokespecial index, 3)) (hy : mOk Y n) (hnm : Y.1.name ≠ "<init>") (hcl : vwCl[ci]? = some r) (w1 : Cond.methodLink X.1.cls index Y.1 ∈ tb) (w2 : Cond.instanceMethod Y.1 ∈ tb) (w3 : Cond.sameMethod Y.1.cls Y.1.cls Y.1.name Y.1.desc ∈ tb) (w4 : Cond.superclass X.1.cls Y.1.cls ∈ tb) (hs : (K.1 a).1 = ci + 10) (hC : Call γ Y d' mc' ms' (vR a :: As) K V Q') {stk : List PV} (hst : stk = As.reverse ++ vR a :: st) (hd' : d' < d) (hn : As.length = n) (hW : (st.map pcat).sum ≤ 8) (hmc : mc' + mcr = mc) (hms : ms' + msr = ms)
    (kk : ∀ r K' V', Q' r K' V' → Ev γ X d mcr msr (pc + 3) ls (r.toList ++ st) K' V' Q) : Ev γ X d mc ms pc ls stk K V Q := by
  intro p l e s m args below meth c H locs als cells slots TC TS hc hh hl hf h1 h2
  subst hmc; subst hms; subst hst
  have hts := hc.2.2.2.2.1
  have ha := cV_ref (γ := γ) (hh.ne0 (a := a) (by omega))
  refine run_ev (a := (Value.ref (ad γ a) :: As.map (cV γ)).toArray) ?_ hc hl hf h1 h2 kk
  refine va_runSU (own := X.1.cls) (C := r.1) (Ts := tb) (n := n) (As := As.map (cV γ)) (hc.2.2.2.2.2.2.2.2.2.1.1 ci _ hcl).2 ⟨hc.1, hc.2.1, hc.2.2.1, hc.2.2.2.1, hts⟩ (hC l) ⟨callB_ok hy hts hd', hts _ w1, hts _ w3, hts _ w4, hts _ w2, hts _ hy.2.1, hts _ hy.1, hnm, sig_ok hy⟩ ⟨frameBlind _, hh.recv hc.2.2.2.2.2.2.2.2 hs hcl, fun U hU hWm => ⟨by rw [List.map_cons, ha], hc.2.2.2.2.2.2.2.2.warm hWm, by rw [hU]; exact hh.moved hWm.alike⟩⟩ rfl (by rw [List.length_map]; exact hn) hl.1 (by simp [List.map_append, List.map_reverse, ha]) (lv_room (Nat.le_trans (pcat_sum st) hW)) hd ⟨show cells + mc' ≤ TC by omega, show slots + ms' ≤ TS by omega⟩
/-- n numbers of f from place sp on, laid into g from place dp on -/
def cpy (f g : Int → Int) (sp dp n : Int) : Int → Int := fun j => if dp ≤ j ∧ j < dp + n then f (sp + (j - dp)) else g j
theorem arr_eq {cell : Cell} {N : Nat} {f g : Nat → Value} (h : cell = arrV cell.cls N g) (h3 : ∀ j : Nat, j < N → cell.slots[j]? = some (f j)) : cell = arrV cell.cls N f := by
  have e : arrV cell.cls N g = arrV cell.cls N f := by
    unfold arrV
    congr 1
    refine Array.ext (by simp) (fun i hi1 hi2 => ?_)
    have hi : i < N := by simpa using hi1
    have := h3 i hi
    rw [h, arrV_read _ _ hi] at this
    simp only [Array.getElem_ofFn]
    exact Option.some.inj this
  exact h.trans e
theorem ev_arraycopy {index a b na nb : Nat} {sp dp n : Int} (hd : decode X.2.1 pc = .ok (.invokestatic index, 3)) (w1 : Cond.methodLink X.1.cls index arraycopyName ∈ tb) (w2 : Cond.native arraycopyName ∈ tb) (w3 : Cond.static arraycopyName ∈ tb) (w4 : Cond.initialized "java/lang/System" ∈ tb) (ha : 100 ≤ a) (hb : 100 ≤ b) (hsa : K.1 a = (1, na)) (hsb : K.1 b = (1, nb)) (h1' : 0 ≤ sp) (h2' : 0 ≤ dp) (h3' : 0 ≤ n) (h4' : sp + n ≤ na) (h5' : dp + n ≤ nb) (hd2 : 1 < d) (hW : (st.map pcat).sum ≤ 8) (kk : Ev γ X d mc ms (pc + 3) ls st K (setr V b (cpy (V a) (V b) sp dp n)) Q) : Ev γ X d mc ms pc ls (vI n :: vI dp :: vR b :: vI sp :: vR a :: st) K V Q := by
  intro p l e s m args below meth c H locs als cells slots TC TS hc hh hl hf h1 h2
  show W _ _ _ _ _ _ _ _ _ _ _ _ _ _ _ (F0 m pc als (.int (Int32.ofInt n) :: .int (Int32.ofInt dp) :: cV γ (vR b) :: .int (Int32.ofInt sp) :: cV γ (vR a) :: st.map (cV γ)))
  rw [cV_ref (a := a) (by omega), cV_ref (a := b) (by omega)]
  have hts := hc.2.2.2.2.1
  obtain ⟨g0, cA, g1, g2, g3, g4, g5, g6, g7, g8⟩ := hh.arr hsa (by decide) (by decide)
  obtain ⟨f0, cB, f1, f2, f3, f4, f5, f6, f7, f8⟩ := hh.arr hsb (by decide) (by decide)
  obtain ⟨fA, eA0⟩ := g8 ha
  obtain ⟨fB, eB0⟩ := f8 hb
  have eA := arr_eq eA0 g6
  have eB := arr_eq eB0 f6
  have sA : cA.slots.size = na := by rw [eA0, arrV_size]
  have sB : cB.slots.size = nb := by rw [eB0, arrV_size]
  have vA : cA.vm = .none := by rw [eA0]; rfl
  have vB : cB.vm = .none := by rw [eB0]; rfl
  have hnf : nativeFrameWords "java/lang/System" "arraycopy" 5 ≤ 100 := by decide +kernel
  have rn : 0 ≤ n ∧ n < 2147483648 := by omega
  have rs : 0 ≤ sp ∧ sp < 2147483648 := by omega
  have rd : 0 ≤ dp ∧ dp < 2147483648 := by omega
  have ti : ∀ z : Int, 0 ≤ z ∧ z < 2147483648 → (Int32.ofInt z).toInt = z := fun z hz => Int32.toInt_ofInt_of_le (by omega) (by omega)
  have hroom : ((st.map (cV γ)).map fun v => v.category).sum ≤ 8 := Nat.le_trans (pcat_sum st) hW
  intro T hT X1
  obtain ⟨-, k0, hk0, cm0, hkk0⟩ := g2
  obtain ⟨-, k1, hk1, cm1, hkk1⟩ := f2
  obtain ⟨vm', X', step⟩ := X1.arraycopy hc.1 hc.2.2.2.1 (hts _ w1) (hts _ w2) (hts _ w3) (hts _ w4) (src := ad γ a) (dst := ad γ b) (cs := cA) (cd := cB) (srcPos := Int32.ofInt sp) (destPos := Int32.ofInt dp) (n := Int32.ofInt n) (by rw [hT]; exact g1) (by rw [hT]; exact f1)
    (fun _ h => by rw [vA] at h; cases h) (fun _ h => by rw [vB] at h; cases h) (fun h => by rw [vA] at h; cases h) (fun h => by rw [vB] at h; cases h) hk0 hk1 hkk0 hkk1 (by simp [aTy, refKind]) (i_nneg rs) (i_nneg rd) (i_nneg rn)
    (by rw [ti sp rs, ti n rn, sA]; omega)
    (by rw [ti dp rd, ti n rn, sB]; omega)
    (fun vm₁ _ i hi => by
      rw [i_clamp rn] at hi
      have e : cA.slots.getD ((Int32.ofInt sp).toNatClampNeg + i) .null = .int (Int32.ofInt (V a (sp.toNat + i : Nat))) := by
        rw [i_clamp rs, Array.getD_eq_getD_getElem?, g6 _ (by omega)]
        rfl
      refine ⟨?_, ?_⟩
      · rw [e]
        rfl
      · rw [e]
        exact trivial)
    (g := F0 m pc als (.int (Int32.ofInt n) :: .int (Int32.ofInt dp) :: .ref (ad γ b) :: .int (Int32.ofInt sp) :: .ref (ad γ a) :: st.map (cV γ))) rfl (by rw [hc.2.2.1]; exact hl.1) (rest := st.map (cV γ)) rfl (by rw [hc.2.1]; exact hd) (show 1 ≤ d by omega) (by show 2 * 0 + _ + _ ≤ 64 * d; omega)
  have e1 : copied cA cB (Int32.ofInt sp) (Int32.ofInt dp) (Int32.ofInt n) = arrV cB.cls nb (fun j => .int (Int32.ofInt (cpy (V a) (V b) sp dp n j))) := by
    have e2 := va_copied (fun z : Int => Value.int (Int32.ofInt z)) cA.cls cB.cls (n0 := na) (n1 := nb) (sp := sp.toNat) (dp := dp.toNat) (n := n.toNat) (fun j => V a j) (fun j => V b j) (by omega)
    unfold copied
    rw [i_clamp rs, i_clamp rd, i_clamp rn]
    rw [eA, eB]
    refine Eq.trans e2 ?_
    congr 1
    funext j
    simp only [va_cpy, cpy]
    by_cases hj : dp.toNat ≤ j ∧ j < dp.toNat + n.toNat
    · rw [if_pos hj, if_pos (by omega)]
      congr 3
      omega
    · rw [if_neg hj, if_neg (by omega)]
  rw [e1] at X' step
  have hlt : ad γ b < H.size := (Array.getElem?_eq_some_iff.mp f1).1
  have hheap : ((T.setVm vm').setCell (ad γ b) (arrV cB.cls nb (fun j => .int (Int32.ofInt (cpy (V a) (V b) sp dp n j))))).heap = H.setIfInBounds (ad γ b) (arrV cB.cls nb (fun j => .int (Int32.ofInt (cpy (V a) (V b) sp dp n j)))) := by rw [← hT]; rfl
  have oq : ∀ q : Nat, q ≠ ad γ b → (H.setIfInBounds (ad γ b) (arrV cB.cls nb (fun j => .int (Int32.ofInt (cpy (V a) (V b) sp dp n j)))))[q]? = H[q]? := fun q hq => by simp [Array.getElem?_setIfInBounds, Ne.symm hq]
  have hnew : Hp γ K (setr V b (cpy (V a) (V b) sp dp n)) s (H.setIfInBounds (ad γ b) (arrV cB.cls nb (fun j => .int (Int32.ofInt (cpy (V a) (V b) sp dp n j))))) := by
    refine hh.upd hb rfl rfl (fun _ _ _ => rfl) (fun q hq j => by simp [setr, hq]) (by simp) oq ⟨fun z1 z2 => ?_, fun z1 => ?_, fun z1 => by rw [hsb] at z1; cases z1⟩
    · rw [hsb]
      show aO γ K (setr V b (cpy (V a) (V b) sp dp n)) b s _ 1 nb
      refine ⟨f0, (arrV cB.cls nb (fun j => .int (Int32.ofInt (cpy (V a) (V b) sp dp n j)))), by simp [Array.getElem?_setIfInBounds, hlt], ⟨(fun _ h => by cases h), k1, hk1, cm1, hkk1⟩, (fun h => by cases h), by rw [arrV_size]; exact Nat.le_refl _, by rw [arrV_size], fun j hj => ?_, (fun z => absurd z (by decide)), fun _ => ⟨_, rfl⟩⟩
      rw [arrV_read _ _ hj]
      simp [eV, setr]
    · rw [hsb] at z1; exact absurd z1 (by omega)
  obtain ⟨t, a1, b1⟩ := kk p l e s m args below meth c _ _ als cells slots TC TS hc hnew hl (fun q hq => by
      rcases List.mem_append.mp hq with h | h
      · exact hf q h
      · obtain ⟨z, -, hz⟩ := List.mem_map.mp h
        rw [← hz]
        exact ad_new hb) h1 h2 _ hheap X'
  exact ⟨t, step t a1, b1⟩
theorem ev_mmax {index : Nat} {x y : Int} (hd : decode X.2.1 pc = .ok (.invokestatic index, 3)) (w1 : Cond.methodLink X.1.cls index Lib.Math.max.name ∈ tb) (w2 : Cond.static Lib.Math.max.name ∈ tb) (w3 : Cond.initialized "java/lang/Math" ∈ tb) (w4 : Cond.code Lib.Math.max.name Lib.Math.max.code 2 (some .int) ∈ tb) (hd2 : 0 < d) (hW : (st.map pcat).sum ≤ 8) (hx : -2147483648 ≤ x ∧ x < 2147483648) (hy : -2147483648 ≤ y ∧ y < 2147483648) (kk : Ev γ X d mc ms (pc + 3) ls (vI (if x < y then y else x) :: st) K V Q) : Ev γ X d mc ms pc ls (vI y :: vI x :: st) K V Q := by
  intro p l e s m args below meth c H locs als cells slots TC TS hc hh hl hf h1 h2
  have hts := hc.2.2.2.2.1
  have hroom : ((st.map (cV γ)).map fun v => v.category).sum ≤ 8 := Nat.le_trans (pcat_sum st) hW
  refine va_mmax (x := Int32.ofInt x) (y := Int32.ofInt y) hc.1 hc.2.1 (hc.2.2.1.trans hl.1.symm) hc.2.2.2.1 (hts _ w1) (hts _ w2) (hts _ w3) (hts _ w4) (show 1 ≤ d by omega) (show _ ≤ 64 * d by omega) (show cells ≤ TC by omega) (show slots ≤ TS by omega) hd ?_
  have e1 : (if Int32.ofInt x < Int32.ofInt y then Int32.ofInt y else Int32.ofInt x) = Int32.ofInt (if x < y then y else x) := by
    simp only [i_lt hx hy]
    split <;> rfl
  rw [e1]
  exact kk p l e s m args below meth c H locs als cells slots TC TS hc hh hl hf h1 h2
theorem ev_mmin {index : Nat} {x y : Int} (hd : decode X.2.1 pc = .ok (.invokestatic index, 3)) (w1 : Cond.methodLink X.1.cls index Lib.Math.min.name ∈ tb) (w2 : Cond.static Lib.Math.min.name ∈ tb) (w3 : Cond.initialized "java/lang/Math" ∈ tb) (w4 : Cond.code Lib.Math.min.name Lib.Math.min.code 2 (some .int) ∈ tb) (hd2 : 0 < d) (hW : (st.map pcat).sum ≤ 8) (hx : -2147483648 ≤ x ∧ x < 2147483648) (hy : -2147483648 ≤ y ∧ y < 2147483648) (kk : Ev γ X d mc ms (pc + 3) ls (vI (if y < x then y else x) :: st) K V Q) : Ev γ X d mc ms pc ls (vI y :: vI x :: st) K V Q := by
  intro p l e s m args below meth c H locs als cells slots TC TS hc hh hl hf h1 h2
  have hts := hc.2.2.2.2.1
  have hroom : ((st.map (cV γ)).map fun v => v.category).sum ≤ 8 := Nat.le_trans (pcat_sum st) hW
  refine va_mmin (x := Int32.ofInt x) (y := Int32.ofInt y) hc.1 hc.2.1 (hc.2.2.1.trans hl.1.symm) hc.2.2.2.1 (hts _ w1) (hts _ w2) (hts _ w3) (hts _ w4) (show 1 ≤ d by omega) (show _ ≤ 64 * d by omega) (show cells ≤ TC by omega) (show slots ≤ TS by omega) hd ?_
  have e1 : (if Int32.ofInt y < Int32.ofInt x then Int32.ofInt y else Int32.ofInt x) = Int32.ofInt (if y < x then y else x) := by
    simp only [i_lt hy hx]
    split <;> rfl
  rw [e1]
  exact kk p l e s m args below meth c H locs als cells slots TC TS hc hh hl hf h1 h2
/-! String constants -/
theorem ev_ldcS {index : Nat} {q : String × Nat × String × Nat} (hd : decode X.2.1 pc = .ok (.ldc index, 2)) (hq : q ∈ strL) (h1' : q.1 = X.1.cls) (h2' : q.2.1 = index) (h3' : q.2.2.2 ≠ 0) (kk : Ev γ X d mc ms (pc + 2) ls (vR q.2.2.2 :: st) K V Q) : Ev γ X d mc ms pc ls st K V Q := by
  intro p l e s m args below meth c H locs als cells slots TC TS hc hh hl hf h1 h2
  have hk := kk p l e s m args below meth c H locs als cells slots TC TS hc hh hl hf h1 h2
  simp only [List.map_cons, cV_ref h3'] at hk
  have hw := hc.2.2.2.2.2.2.2.2.1 q hq
  rw [h1', h2'] at hw
  exact va_ldcS hc.1 hc.2.1 hc.2.2.2.1 hw hd hk
theorem Hp.str {U : State} {H : Heap} (h : Hp γ K V U H) {a : Nat} (hs : (K.1 a).1 = 8) : tO γ K V a U H := (h.1 a).2.2 hs
theorem ev_getSc {index a : Nat} (hd : decode X.2.1 pc = .ok (.getfield index, 3)) (w : Cond.fieldLink X.1.cls index "java/lang/String" "coder" "B" ∈ tb) (hs : (K.1 a).1 = 8) (kk : Ev γ X d mc ms (pc + 3) ls (vI (V a 0) :: st) K V Q) : Ev γ X d mc ms pc ls (vR a :: st) K V Q := by
  intro p l e s m args below meth c H locs als cells slots TC TS hc hh hl hf h1 h2
  show W _ _ _ _ _ _ _ _ _ _ _ _ _ _ _ (F0 m pc als (cV γ (vR a) :: st.map (cV γ)))
  rw [cV_ref (hh.ne0 (by omega))]
  obtain ⟨cf, k, fi, f, cell, y1, y2, y3, y4, y5, y6⟩ := (hh.str hs).2.1
  exact W.getf hc.1 hc.2.1 hc.2.2.2.1 (hc.2.2.2.2.1 _ w) y1 y2 y3 y4 (v := cV γ (vI (V a 0))) y5 rfl rfl hd (kk p l e s m args below meth c H locs als cells slots TC TS hc hh hl hf h1 h2)
theorem ev_getSv {index a : Nat} (hd : decode X.2.1 pc = .ok (.getfield index, 3)) (w : Cond.fieldLink X.1.cls index "java/lang/String" "value" "[B" ∈ tb) (hs : (K.1 a).1 = 8) (kk : Ev γ X d mc ms (pc + 3) ls (vR (K.2.1 a 1) :: st) K V Q) : Ev γ X d mc ms pc ls (vR a :: st) K V Q := by
  intro p l e s m args below meth c H locs als cells slots TC TS hc hh hl hf h1 h2
  show W _ _ _ _ _ _ _ _ _ _ _ _ _ _ _ (F0 m pc als (cV γ (vR a) :: st.map (cV γ)))
  rw [cV_ref (hh.ne0 (by omega))]
  obtain ⟨cf, k, fi, f, cell, y1, y2, y3, y4, y5, y6⟩ := (hh.str hs).2.2
  exact W.getf hc.1 hc.2.1 hc.2.2.2.1 (hc.2.2.2.2.1 _ w) y1 y2 y3 y4 (v := cV γ (vR (K.2.1 a 1))) y5 rfl rfl hd (kk p l e s m args below meth c H locs als cells slots TC TS hc hh hl hf h1 h2)
theorem ev_virtS {a : Nat} (hd : decode X.2.1 pc = .ok (.invokevirtual index, 3)) (hy : mOk Y n) (w1 : Cond.methodLink X.1.cls index Y.1 ∈ tb) (w2 : Cond.instanceMethod Y.1 ∈ tb) (w3 : Cond.selects "java/lang/String" Y.1 Y.1 ∈ tb) (hs : (K.1 a).1 = 8) (hC : Call γ Y d' mc' ms' (vR a :: As) K V Q') {stk : List PV} (hst : stk = As.reverse ++ vR a :: st) (hd' : d' < d) (hn : As.length = n) (hW : (st.map pcat).sum ≤ 8) (hmc : mc' + mcr = mc) (hms : ms' + msr = ms)
    (kk : ∀ r K' V', Q' r K' V' → Ev γ X d mcr msr (pc + 3) ls (r.toList ++ st) K' V' Q) : Ev γ X d mc ms pc ls stk K V Q := by
  intro p l e s m args below meth c H locs als cells slots TC TS hc hh hl hf h1 h2
  subst hmc; subst hms; subst hst
  have hts := hc.2.2.2.2.1
  have ha := cV_ref (γ := γ) (hh.ne0 (a := a) (by omega))
  obtain ⟨b1, b2, b3, b4, b5, b6⟩ := callB_ok (TC := TC) (TS := TS) (mc' := mc') (ms' := ms') hy hts hd'
  obtain ⟨cell, y1, y2, y3, y4⟩ := (hh.str hs).1
  refine run_ev (a := (Value.ref (ad γ a) :: As.map (cV γ)).toArray) ?_ hc hl hf h1 h2 kk
  refine va_runV (own := X.1.cls) (C := "java/lang/String") (Ts := tb) (n := n) (As := As.map (cV γ)) ⟨hc.1, hc.2.1, hc.2.2.1, hc.2.2.2.1, hts⟩ (hC l) ⟨⟨b1, b2, b3, b4, b5, b6, hts _ hy.1, hts _ hy.2.1, hy.2.2.1, sig_ok hy, hts _ w1⟩, hts _ w2, hts _ w3⟩ ⟨frameBlind _, ⟨cell, y1, y2, y3⟩, fun U hU hWm => ⟨by rw [List.map_cons, ha], hc.2.2.2.2.2.2.2.2.warm hWm, by rw [hU]; exact hh.moved hWm.alike⟩⟩ rfl (by rw [List.length_map]; exact hn) hl.1 (by simp [List.map_append, List.map_reverse, ha]) (lv_room (Nat.le_trans (pcat_sum st) hW)) hd ⟨show cells + mc' ≤ TC by omega, show slots + ms' ≤ TS by omega⟩
theorem ev_objInit {a : Nat} (hd : decode X.2.1 pc = .ok (.invokespecial index, 3)) (w1 : Cond.methodLink X.1.cls index objectInit ∈ tb) (w2 : Cond.instanceMethod objectInit ∈ tb) (w3 : Cond.code objectInit ⟨#[0xb1]⟩ 1 none ∈ tb) (ha0 : a ≠ 0) (hd' : 0 < d) (hW : (st.map pcat).sum ≤ 8) (kk : Ev γ X d mc ms (pc + 3) ls st K V Q) : Ev γ X d mc ms pc ls (vR a :: st) K V Q := by
  intro p l e s m args below meth c H locs als cells slots TC TS hc hh hl hf h1 h2
  show W _ _ _ _ _ _ _ _ _ _ _ _ _ _ _ (F0 m pc als (cV γ (vR a) :: st.map (cV γ)))
  rw [cV_ref ha0]
  have hts := hc.2.2.2.2.1
  refine W.objInit hc.1 hc.2.1 hc.2.2.2.1 (hts _ w1) (hts _ w2) (hts _ w3) rfl (hl.1.trans hc.2.2.1.symm) rfl hd (show 1 ≤ d by omega) ?_ (kk p l e s m args below meth c H locs als cells slots TC TS hc hh hl hf h1 h2)
  have := lv_room (m := m) (pc := pc) (ls := als) (rest := Value.ref (ad γ a) :: st.map (cV γ)) (Nat.le_trans (pcat_sum (γ := γ) st) hW)
  show _ ≤ 64 * d
  omega
end HR2
