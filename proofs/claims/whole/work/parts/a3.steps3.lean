/-! ===== sheets ===== -/
theorem iand_255 {v : Int} (hv : R32 v) : op_iand v 255 = v % 256 := by
  have e1 : (Int32.ofInt v).toInt = v := Int32.toInt_ofInt_of_le (by omega) (by omega)
  unfold op_iand
  have e2 : (Int32.ofInt v).toInt = (Int32.ofInt v).toBitVec.toInt := rfl
  have e3 : (Int32.ofInt v &&& Int32.ofInt 255).toBitVec.toNat = (Int32.ofInt v).toBitVec.toNat % 256 := by
    rw [Int32.toBitVec_and, BitVec.toNat_and, show (Int32.ofInt 255).toBitVec.toNat = 2 ^ 8 - 1 by decide, Nat.and_two_pow_sub_one_eq_mod]
  have e4 : (Int32.ofInt v &&& Int32.ofInt 255).toInt = ((Int32.ofInt v &&& Int32.ofInt 255).toBitVec.toNat : Int) := by
    show (Int32.ofInt v &&& Int32.ofInt 255).toBitVec.toInt = _
    exact BitVec.toInt_eq_toNat_of_lt (by omega)
  rw [e4, e3]
  rw [e1, BitVec.toInt_eq_toNat_cond] at e2
  split at e2 <;> omega
theorem iand_65535 {v : Int} (hv : R32 v) : op_iand v 65535 = v % 65536 := by
  have e1 : (Int32.ofInt v).toInt = v := Int32.toInt_ofInt_of_le (by omega) (by omega)
  unfold op_iand
  have e2 : (Int32.ofInt v).toInt = (Int32.ofInt v).toBitVec.toInt := rfl
  have e3 : (Int32.ofInt v &&& Int32.ofInt 65535).toBitVec.toNat = (Int32.ofInt v).toBitVec.toNat % 65536 := by
    rw [Int32.toBitVec_and, BitVec.toNat_and, show (Int32.ofInt 65535).toBitVec.toNat = 2 ^ 16 - 1 by decide, Nat.and_two_pow_sub_one_eq_mod]
  have e4 : (Int32.ofInt v &&& Int32.ofInt 65535).toInt = ((Int32.ofInt v &&& Int32.ofInt 65535).toBitVec.toNat : Int) := by
    show (Int32.ofInt v &&& Int32.ofInt 65535).toBitVec.toInt = _
    exact BitVec.toInt_eq_toNat_of_lt (by omega)
  rw [e4, e3]
  rw [e1, BitVec.toInt_eq_toNat_cond] at e2
  split at e2 <;> omega
theorem prq_0 : prq 0 0 := ⟨by decide, by decide, Iff.rfl, fun _ => rfl⟩
theorem pc_pb {b v : Int} (hb : b = 8 ∨ b = 16 ∨ b = 32) (hv : R32 v) : prq (pcF b v) (pbF b v) := by
  have e1 : (Int32.ofInt v).toInt = v := Int32.toInt_ofInt_of_le (by omega) (by omega)
  unfold pcF pbF
  rcases hb with z | z | z <;> subst z
  · rw [if_neg (by decide), if_pos rfl, show op_ishl 1 8 - 1 = 255 by decide, iand_255 hv]
    have e : op_i2b v = v.bmod (2 ^ 8) := by
      unfold op_i2b
      rw [Int8.toInt_toInt32, Int32.toInt_toInt8, e1]
    rw [e, Int.bmod_def]
    unfold prq
    split <;> omega
  · rw [if_neg (by decide), if_neg (by decide), if_pos rfl, show op_ishl 1 16 - 1 = 65535 by decide, iand_65535 hv]
    have e : op_i2s v = v.bmod (2 ^ 16) := by
      unfold op_i2s
      rw [Int16.toInt_toInt32, Int32.toInt_toInt16, e1]
    rw [e, Int.bmod_def]
    unfold prq
    split <;> omega
  · rw [if_pos rfl, if_neg (by decide), if_neg (by decide)]
    exact ⟨hv, hv, Iff.rfl, fun _ => rfl⟩
section ST
variable {γ : Gh} {n : Int} {L : Nat} {g : Int → Int} {K : Sk} {V : Mm} {D E : Int → Int} {im : Int} {er : Int → Int}
theorem ShI.cb (h : ShI V) : cBn V := fun s s0 s1 => by
  obtain ⟨z1, z2, z3, _⟩ := h.2 s s0 s1
  rw [h.1, z2]
  exact ⟨by omega, z3⟩
/-- the class has changed its sheets or its errors alone -/
theorem sh_CI {W : Mm} {er' : Int → Int} (h : CI K V D E im er) (hw : DL D) (hf : ∀ c, ¬ (145 ≤ c ∧ c ≤ 155) → W c = V c) (h5 : W 155 = er') : CI K W D E im er' := by
  refine h.fr hw.d26 hw.d27 (fun c z => hf c (fun q => z (Or.inr (Or.inr (Or.inl (by omega)))))) (by rw [hf 119 (by decide)]; exact h.1.ok) h5
theorem Iv.sh {V1 V2 : Mm} {k : Int} {A B N : Int → Int} (h : Iv n L g K V D E im er) (hf : ∀ c, ¬ (145 ≤ c ∧ c ≤ 155) → V1 c = V c) (h5 : V1 155 = erK er k) (h2 : SHW V1 k A B N V2) (hS : ShI V2) : Inv (n + 1) L g K V2 := by
  obtain ⟨x1, ⟨m1, m2, m3, m4, m5⟩, x3, x4, x5, x6, x7, x8, x9, x10, x11⟩ := h
  obtain ⟨d1, d2, d3, d4, d5⟩ := h2
  have e0 : ∀ c, ¬ (145 ≤ c ∧ c ≤ 155) → c ≠ 159 → ¬ (174 ≤ c ∧ c ≤ 177) → V2 c = V c := fun c z1 z2 z3 => by rw [d5 c z2 (by omega) (by omega) (by omega) (by omega), hf c z1]
  have hc := (sh_CI x1 x3.1 hf h5).m (W := V2) x3.1 (fun c z => d5 c (by omega) (by omega) (by omega) (by omega) (by omega))
  refine Iv.mo (n := n) ⟨hc, ⟨?_, ?_, ?_, ?_, fun j y => ?_⟩, x3, x4, x5, x6, x7, x8.mv (e0 143 (by decide) (by decide) (by decide)) (e0 144 (by decide) (by decide) (by decide)) ?_ (e0 173 (by decide) (by decide) (by decide)), hS, x10, ?_⟩
  · rw [e0 157 (by decide) (by decide) (by decide)]; exact m1
  · rw [e0 158 (by decide) (by decide) (by decide)]; exact m2
  · rw [e0 156 (by decide) (by decide) (by decide)]; exact m3
  · rw [d1, hf 159 (by decide), m4]
  · rw [e0 161 (by decide) (by decide) (by decide)]; exact m5 j y
  · rw [e0 156 (by decide) (by decide) (by decide)]
  · rw [e0 30 (by decide) (by decide) (by decide)]; exact x11
/-- a sheet's act that is refused leaves the sheets -/
theorem ShI.e {V2 : Mm} {k : Int} {A B N : Int → Int} (h : ShI V) (hk : k ≠ 0) (h2 : SHW (err V k) k A B N V2) : ShI V2 := by
  obtain ⟨d1, d2, d3, d4, d5⟩ := h2
  rw [if_neg hk] at d2 d3 d4
  have e : ∀ c, c ≠ 155 → err V k c = V c := fun c z => wr_off z
  exact h.mv (fun c z1 z2 => by rw [d5 c (by omega) (by omega) (by omega) (by omega) (by omega), e c (by omega)]) (by rw [d2, e 174 (by decide)]) (by rw [d3, e 175 (by decide)]) (by rw [d4, e 176 (by decide)])
/-- an act on sheets: what the class leaves, V1; the reference's row of rows -/
theorem st_sh {x k : Int} {Xc Xm : MX} {as : List PV} {dc dm : Nat} {V1 : Mm} {A B N : Int → Int} (h : Iv n L g K V D E im er) (d1 : dc ≤ 48) (d2 : dm ≤ 48) (hc : Call γ Xc dc 0 0 (vR 100 :: as) K V (Rt (some (vI x)) K (if k = 0 then V1 else err V k))) (hf : k = 0 → ∀ c, ¬ (145 ≤ c ∧ c ≤ 154) → V1 c = V c) (hm : ∀ W, (∀ c, 156 ≤ c → W c = V c) → Call γ Xm dm 0 0 (vR 156 :: as) K W (Qx (some (vI x)) K (SHW W k A B N))) (hS : k = 0 → ∀ V2, SHW V1 0 A B N V2 → ShI V2) : St γ n L g vI Xc Xm as 0 0 K V := by
  have hL := h.1.1.L
  refine ⟨x, dc, dm, fun K1 W => K1 = K ∧ W = if k = 0 then V1 else err V k, d1, d2, hc, fun K1 W hq => ?_⟩
  obtain ⟨hk1, hv1⟩ := hq
  rw [hk1]
  have f0 : ∀ c, ¬ (145 ≤ c ∧ c ≤ 155) → W c = V c := fun c z => by
    rw [hv1]
    by_cases q : k = 0
    · rw [if_pos q]; exact hf q c (by omega)
    · rw [if_neg q]; exact wr_off (by omega)
  have f5 : W 155 = erK er k := by
    rw [hv1]
    by_cases q : k = 0
    · rw [if_pos q, q, hf q 155 (by decide)]; exact h.e5
    · rw [if_neg q]; unfold err erK; rw [wr_row, if_neg q, h.e5]
  refine ⟨⟨hL, h.s30.1, by rw [f0 30 (by decide)]; exact h.s30.2⟩, fun K2 V2 => K2 = K ∧ SHW W k A B N V2, hm W (fun c z => f0 c (by omega)), fun K2 V2 hq2 => ?_⟩
  obtain ⟨hk2, hs2⟩ := hq2
  rw [hk2]
  refine h.sh f0 f5 hs2 ?_
  rw [hv1] at hs2
  by_cases q : k = 0
  · rw [if_pos q, q] at hs2; exact hS q V2 hs2
  · rw [if_neg q] at hs2; exact h.2.2.2.2.2.2.2.2.1.e q hs2
theorem shA_ne {s t : Int} (hs : 0 ≤ s ∧ s < 4) (ht : 0 ≤ t ∧ t < 4) (h : t ≠ s) : shA t ≠ shA s ∧ shA t ≠ shA s + 1 ∧ shA t + 1 ≠ shA s ∧ shA t + 1 ≠ shA s + 1 := by
  have a := shA_r hs
  have b := shA_r ht
  omega
theorem st_sheet (h : Iv n L g K V D E im er) {s b m : Int} (hs : R32 s) (hb : R32 b) (hm : R32 m) : St γ n L g vI M_X11_sheet M_X12_sheet [vI s, vI b, vI m] 0 0 K V := by
  have hSh := h.2.2.2.2.2.2.2.2.1
  have hk0 : shK s b m = 0 → (0 ≤ s ∧ s < 4) ∧ (b = 0 ∨ b = 8 ∨ b = 16 ∨ b = 32) ∧ (b = 0 ∨ (0 ≤ m ∧ m ≤ 40)) := fun z => by
    unfold shK at z
    have q : (0 ≤ s ∧ s < 4) ∧ (b = 0 ∨ b = 8 ∨ b = 16 ∨ b = 32) := Decidable.byContradiction fun q => by rw [if_neg q] at z; exact absurd z (by decide)
    rw [if_pos q] at z
    refine ⟨q.1, q.2, ?_⟩
    split at z
    · exact absurd z (by decide)
    · split at z
      · exact absurd z (by decide)
      · omega
  refine st_sh (dm := 2) (k := shK s b m) (A := up (V 174) s b) (B := up (V 175) s (if b = 0 then 0 else m)) (N := zr40 (V 176) s 40) h (by decide) (by decide) (c_sheet h.1.1.L hSh.cb hs hb hm) (fun z c hc => ?_) (fun W hW => ?_) (fun z V2 h2 => ?_)
  · obtain ⟨q1, _, _⟩ := hk0 z
    have hA := shA_r q1
    unfold shW
    rw [wr_off (by omega), setr_ne (by omega), wr_off (by omega)]
  · have := m_sheet (γ := γ) (V := W) h.1.1.L hs hb hm
    rw [hW 174 (by decide), hW 175 (by decide), hW 176 (by decide)] at this
    exact this
  · obtain ⟨q1, q2, q3⟩ := hk0 z
    obtain ⟨d1, d2, d3, d4, d5⟩ := h2
    rw [if_pos rfl] at d2 d3 d4
    have hA := shA_r q1
    have e : ∀ c, 146 ≤ c → c ≤ 154 → V2 c = shW V s b m c := fun c z1 z2 => d5 c (by omega) (by omega) (by omega) (by omega) (by omega)
    have e4 : shW V s b m 154 = up (V 154) s b := by unfold shW; rw [wr_off (by omega), setr_ne (by omega), wr_row]
    have eA : shW V s b m (shA s) 1 = if b = 0 then 0 else m := by unfold shW; rw [wr_self]
    have eB : shW V s b m (shA s + 1) = flr (V (shA s + 1)) ((40 : Nat) : Int) 0 := by unfold shW; rw [wr_off (by omega), setr_self]
    have eO : ∀ c, c ≠ 154 → c ≠ shA s → c ≠ shA s + 1 → shW V s b m c = V c := fun c c1 c2 c3 => by unfold shW; rw [wr_off c2, setr_ne c3, wr_off c1]
    refine ⟨by rw [e 154 (by decide) (by decide), e4, d2, hSh.1], fun t t0 t1 => ?_⟩
    have hT := shA_r ⟨t0, t1⟩
    rw [d2, d3, d4, e (shA t) (by omega) (by omega), e (shA t + 1) (by omega) (by omega)]
    by_cases q : t = s
    · rw [q, up_self, up_self, eA, eB]
      refine ⟨q2, rfl, by split <;> omega, fun i i0 i1 => ?_⟩
      have i2 : i < 40 := by split at i1 <;> omega
      unfold flr zr40
      rw [if_pos (by omega), if_pos (by omega)]
      exact prq_0
    · obtain ⟨r1, r2, r3, r4⟩ := shA_ne q1 ⟨t0, t1⟩ q
      obtain ⟨y1, y2, y3, y4⟩ := hSh.2 t t0 t1
      rw [up_ne q, up_ne q, eO _ (by omega) r1 r2, eO _ (by omega) r3 r4]
      refine ⟨y1, y2, y3, fun i i0 i1 => ?_⟩
      unfold zr40
      rw [if_neg (by omega)]
      exact y4 i i0 i1
theorem ptK_eq {A B B' : Int → Int} {s i : Int} (h : 0 ≤ s → s < 4 → B s = B' s) : ptK A B s i = ptK A B' s i := by
  unfold ptK
  by_cases z : 0 ≤ s ∧ s < 4
  · rw [if_pos z, if_pos z, h z.1 z.2]
  · rw [if_neg z, if_neg z]
theorem st_put (h : Iv n L g K V D E im er) {s i v : Int} (hs : R32 s) (hi : R32 i) (hv : R32 v) : St γ n L g vI M_X11_put M_X12_put [vI s, vI i, vI v] 0 0 K V := by
  have hSh := h.2.2.2.2.2.2.2.2.1
  obtain ⟨b1, b2⟩ := id hSh
  have hc := c_put (γ := γ) h.1.1.L hSh.cb hs hi (v := v)
  rw [ptK_eq (A := V 154) (B := fun s => V (shA s) 1) (B' := V 175) (fun s0 s1 => (b2 s s0 s1).2.1), b1] at hc
  have hk0 : ptK (V 174) (V 175) s i = 0 → (0 ≤ s ∧ s < 4) ∧ V 174 s ≠ 0 ∧ 0 ≤ i ∧ i < V 175 s := fun z => by
    unfold ptK at z
    have q : 0 ≤ s ∧ s < 4 := Decidable.byContradiction fun q => by rw [if_neg q] at z; exact absurd z (by decide)
    rw [if_pos q] at z
    refine ⟨q, ?_⟩
    split at z
    · exact absurd z (by decide)
    · next y =>
      split at z
      · next x => exact ⟨y, x⟩
      · exact absurd z (by decide)
  refine st_sh (dm := 2) (k := ptK (V 174) (V 175) s i) (A := V 174) (B := V 175) (N := up (V 176) (40 * s + i) (pbF (V 174 s) v)) h (by decide) (by decide) hc (fun z c hc => ?_) (fun W hW => ?_) (fun z V2 h2 => ?_)
  · obtain ⟨q1, _, _⟩ := hk0 z
    have hA := shA_r q1
    exact wr_off (by omega)
  · have := m_put (γ := γ) (V := W) (v := v) h.1.1.L hs hi (fun s0 s1 => by
      obtain ⟨y1, y2, y3, y4⟩ := b2 s s0 s1
      rw [hW 174 (by decide), hW 175 (by decide)]
      exact ⟨by omega, y3⟩)
    rw [hW 174 (by decide), hW 175 (by decide), hW 176 (by decide)] at this
    exact this
  · obtain ⟨q1, q2, q3, q4⟩ := hk0 z
    obtain ⟨d1, d2, d3, d4, d5⟩ := h2
    rw [if_pos rfl] at d2 d3 d4
    have hA := shA_r q1
    have e : ∀ c, 146 ≤ c → c ≤ 154 → V2 c = wr V (shA s + 1) i (pcF (V 174 s) v) c := fun c z1 z2 => d5 c (by omega) (by omega) (by omega) (by omega) (by omega)
    refine ⟨by rw [e 154 (by decide) (by decide), wr_off (by omega), d2]; exact b1, fun t t0 t1 => ?_⟩
    have hT := shA_r ⟨t0, t1⟩
    obtain ⟨y1, y2, y3, y4⟩ := b2 t t0 t1
    rw [d2, d3, d4, e (shA t) (by omega) (by omega), e (shA t + 1) (by omega) (by omega)]
    by_cases q : t = s
    · rw [q] at y1 y2 y3 y4 ⊢
      rw [wr_off (show shA s ≠ shA s + 1 by omega), wr_row]
      refine ⟨y1, y2, y3, fun j j0 j1 => ?_⟩
      by_cases w : j = i
      · rw [w, up_self, up_self]
        exact pc_pb (by omega) hv
      · rw [up_ne w, up_ne (by omega)]; exact y4 j j0 j1
    · obtain ⟨r1, r2, r3, r4⟩ := shA_ne q1 ⟨t0, t1⟩ q
      rw [wr_off r2, wr_off r4]
      refine ⟨y1, y2, y3, fun j j0 j1 => ?_⟩
      obtain ⟨x1, x2, x3, x4⟩ := b2 s q1.1 q1.2
      rw [up_ne (by omega)]
      exact y4 j j0 j1
theorem mvK_eq {A B B' : Int → Int} {s i o j m : Int} (h : ∀ s, 0 ≤ s → s < 4 → B s = B' s) : mvK A B s i o j m = mvK A B' s i o j m := by
  unfold mvK
  by_cases z : (0 ≤ s ∧ s < 4) ∧ 0 ≤ o ∧ o < 4
  · rw [if_pos z, if_pos z, h s z.1.1 z.1.2, h o z.2.1 z.2.2]
  · rw [if_neg z, if_neg z]
theorem st_move (h : Iv n L g K V D E im er) {s i o j m : Int} (hs : R32 s) (hi : R32 i) (ho : R32 o) (hj : R32 j) (hm : R32 m) : St γ n L g vI M_X11_move M_X12_move [vI s, vI i, vI o, vI j, vI m] 0 0 K V := by
  have hSh := h.2.2.2.2.2.2.2.2.1
  obtain ⟨b1, b2⟩ := id hSh
  have hc := c_move (γ := γ) h.1.1.L hSh.cb hs hi ho hj hm
  rw [mvK_eq (A := V 154) (B := fun s => V (shA s) 1) (B' := V 175) (fun s s0 s1 => (b2 s s0 s1).2.1), b1] at hc
  have hk0 : mvK (V 174) (V 175) s i o j m = 0 → ((0 ≤ s ∧ s < 4) ∧ 0 ≤ o ∧ o < 4) ∧ (0 ≤ m ∧ 0 ≤ i ∧ 0 ≤ j) ∧ m ≤ V 175 s - i ∧ m ≤ V 175 o - j := fun z => by
    unfold mvK at z
    have q : (0 ≤ s ∧ s < 4) ∧ 0 ≤ o ∧ o < 4 := Decidable.byContradiction fun q => by rw [if_neg q] at z; exact absurd z (by decide)
    rw [if_pos q] at z
    refine ⟨q, ?_⟩
    split at z
    · exact absurd z (by decide)
    · split at z
      · exact absurd z (by decide)
      · split at z
        · next x => exact x
        · exact absurd z (by decide)
  refine st_sh (dm := 2) (k := mvK (V 174) (V 175) s i o j m) (A := V 174) (B := V 175) (N := cpy (V 176) (V 176) (40 * s + i) (40 * o + j) m) h (by decide) (by decide) hc (fun z c hc => ?_) (fun W hW => ?_) (fun z V2 h2 => ?_)
  · obtain ⟨q1, _, _⟩ := hk0 z
    have hA := shA_r q1.2
    exact setr_ne (by omega)
  · have := m_move (γ := γ) (V := W) h.1.1.L hs hi ho hj hm (fun s s0 s1 => by
      obtain ⟨y1, y2, y3, y4⟩ := b2 s s0 s1
      rw [hW 174 (by decide), hW 175 (by decide)]
      exact ⟨by omega, y3⟩)
    rw [hW 174 (by decide), hW 175 (by decide), hW 176 (by decide)] at this
    exact this
  · obtain ⟨⟨q1, q1'⟩, q2, q3, q4⟩ := hk0 z
    obtain ⟨d1, d2, d3, d4, d5⟩ := h2
    rw [if_pos rfl] at d2 d3 d4
    have hA := shA_r q1'
    have e : ∀ c, 146 ≤ c → c ≤ 154 → V2 c = setr V (shA o + 1) (cpy (V (shA s + 1)) (V (shA o + 1)) i j m) c := fun c z1 z2 => d5 c (by omega) (by omega) (by omega) (by omega) (by omega)
    refine ⟨by rw [e 154 (by decide) (by decide), setr_ne (by omega), d2]; exact b1, fun t t0 t1 => ?_⟩
    have hT := shA_r ⟨t0, t1⟩
    obtain ⟨y1, y2, y3, y4⟩ := b2 t t0 t1
    obtain ⟨x1, x2, x3, x4⟩ := b2 s q1.1 q1.2
    rw [d2, d3, d4, e (shA t) (by omega) (by omega), e (shA t + 1) (by omega) (by omega)]
    by_cases q : t = o
    · rw [q] at y1 y2 y3 y4 ⊢
      rw [setr_ne (show shA o ≠ shA o + 1 by omega), setr_self]
      refine ⟨y1, y2, y3, fun r r0 r1 => ?_⟩
      unfold cpy
      by_cases w : j ≤ r ∧ r < j + m
      · rw [if_pos w, if_pos (by omega), show 40 * s + i + (40 * o + r - (40 * o + j)) = 40 * s + (i + (r - j)) by omega]
        exact x4 (i + (r - j)) (by omega) (by omega)
      · rw [if_neg w, if_neg (by omega)]
        exact y4 r r0 r1
    · obtain ⟨r1, r2, r3, r4⟩ := shA_ne q1' ⟨t0, t1⟩ q
      obtain ⟨w1, w2, w3, w4⟩ := b2 o q1'.1 q1'.2
      rw [setr_ne r2, setr_ne r4]
      refine ⟨y1, y2, y3, fun r r0 r1 => ?_⟩
      unfold cpy
      rw [if_neg (by omega)]
      exact y4 r r0 r1
end ST
