/-! ===== the invariant of both ===== -/
def DW (D : Int → Int) : Prop := DL D ∧ (0 ≤ D 21 ∧ D 21 ≤ 9999) ∧ (0 ≤ D 24 ∧ D 24 ≤ 50) ∧ (∀ i, 0 ≤ i → i < D 24 → 0 ≤ D (148 + i) ∧ D (148 + i) < 256) ∧ (0 ≤ D 25 ∧ D 25 ≤ 20) ∧ ∀ i, 0 ≤ i → i < D 25 → R32 (D (28 + i))
def DZ (D : Int → Int) : Prop := ∀ j, ¬ (0 ≤ j ∧ j < 200) → D j = 0
def MI (V : Mm) (D E : Int → Int) (im : Int) (er : Int → Int) : Prop := V 157 = D ∧ V 158 = E ∧ V 156 2 = im ∧ V 159 = er ∧ Z161 V
def TrI (V : Mm) : Prop := V 143 1 = V 156 24 ∧ (0 ≤ V 156 24 ∧ V 156 24 ≤ 40) ∧ ∀ i, 0 ≤ i → i < V 156 24 → V 144 i = V 173 i
def prq (x y : Int) : Prop := R32 x ∧ R32 y ∧ ((0 ≤ x ∧ x < 6) ↔ (0 ≤ y ∧ y < 6)) ∧ (0 ≤ x ∧ x < 6 → x = y)
def ShI (V : Mm) : Prop := V 154 = V 174 ∧ ∀ s, 0 ≤ s → s < 4 → (V 174 s = 0 ∨ V 174 s = 8 ∨ V 174 s = 16 ∨ V 174 s = 32) ∧ V (shA s) 1 = V 175 s ∧ (0 ≤ V 175 s ∧ V 175 s ≤ 40) ∧ ∀ i, 0 ≤ i → i < V 175 s → prq (V (shA s + 1) i) (V 176 (40 * s + i))
/-- what both hold, and the script's row -/
def Iv (n : Int) (L : Nat) (g : Int → Int) (K : Sk) (V : Mm) (D E : Int → Int) (im : Int) (er : Int → Int) : Prop := CI K V D E im er ∧ MI V D E im er ∧ DW D ∧ DZ D ∧ DZ E ∧ (0 < im → DW E) ∧ (0 ≤ im ∧ im ≤ n) ∧ TrI V ∧ ShI V ∧ K.1 30 = (1, L) ∧ V 30 = g
def Inv (n : Int) (L : Nat) (g : Int → Int) (K : Sk) (V : Mm) : Prop := ∃ D E im er, Iv n L g K V D E im er
theorem CI.ks {K K' : Sk} {V : Mm} {D E : Int → Int} {im : Int} {er : Int → Int} (h : CI K V D E im er) (hk : KS K K') : CI K' V D E im er := by
  obtain ⟨k1, k2, k3, k4⟩ := hk
  have hL := h.1.L
  obtain ⟨⟨a1, a2, ⟨b1, b2, b3, b4, b5, b6, b7, b8⟩, a4, a5, a6, a7, a8⟩, sc⟩ := h
  have hkk : ∀ c, (K.1 c).1 ≠ 0 → K'.1 c = K.1 c := fun c _ => by rw [k1]
  have hr : ∀ c j, c ≠ 101 → K'.2.1 c j = K.2.1 c j := fun c j z => k3 c j (fun q => z q.1)
  exact ⟨⟨fun c z => by rw [k1]; exact a1 c (by omega), a2.mv hkk (fun c j z => hr c j (by omega)) (fun _ _ => rfl), ⟨k4, b2, b3, b4, b5, b6, b7, b8⟩, a4, a5.mv hkk (fun c j z _ => hr c j (by omega)) (by rw [lS_103 hL]; show (5 : Nat) ≠ 0; decide) (by rw [lS_104 hL]; show (6 : Nat) ≠ 0; decide) (fun _ _ _ _ => rfl), a6, fun z => ⟨(a7 z).1.mv hkk (fun c j z _ => hr c j (by omega)) (by rw [lS_128 hL]; show (5 : Nat) ≠ 0; decide) (by rw [lS_129 hL]; show (6 : Nat) ≠ 0; decide) (fun _ _ _ _ => rfl), (a7 z).2⟩, a8⟩, sc⟩
/-- all that the reference does leaves the class's picture -/
theorem CI.m {K : Sk} {V W : Mm} {D E : Int → Int} {im : Int} {er : Int → Int} (h : CI K V D E im er) (hw : DL D) (hf : ∀ c, ¬ (156 ≤ c ∧ c ≤ 177) → W c = V c) : CI K W D E im er := by
  refine h.fr hw.d26 hw.d27 (fun c z => hf c (fun q => z (Or.inr (Or.inr (Or.inl (by omega)))))) ?_ ?_
  · rw [hf 119 (by decide)]; exact h.1.ok
  · rw [hf 155 (by decide)]; exact h.1.2.2.2.2.2.2.2
theorem TrI.mv {V W : Mm} (h : TrI V) (h1 : W 143 = V 143) (h2 : W 144 = V 144) (h3 : W 156 24 = V 156 24) (h4 : W 173 = V 173) : TrI W := by
  unfold TrI at h ⊢
  rw [h1, h2, h3, h4]
  exact h
theorem ShI.mv {V W : Mm} (h : ShI V) (hc : ∀ c, 146 ≤ c → c ≤ 154 → W c = V c) (h1 : W 174 = V 174) (h2 : W 175 = V 175) (h3 : W 176 = V 176) : ShI W := by
  refine ⟨by rw [hc 154 (by decide) (by decide), h1]; exact h.1, fun s s0 s1 => ?_⟩
  have hA := shA_r ⟨s0, s1⟩
  rw [h1, h2, h3, hc (shA s) (by omega) (by omega), hc (shA s + 1) (by omega) (by omega)]
  exact h.2 s s0 s1
/-- a question -/
theorem Iv.q {n : Int} {L : Nat} {g : Int → Int} {K K' : Sk} {V V1 V2 : Mm} {D E : Int → Int} {im : Int} {er er' : Int → Int} (h : Iv n L g K V D E im er) (hk : KS K K') (h1 : CS (comF D) (fS D) V er' V1) (h2 : MS V1 er' V2) : Iv n L g K' V2 D E im er' := by
  obtain ⟨a1, ⟨m1, m2, m3, m4, m5⟩, a3, a4, a5, a6, a7, a8, a9, a10, a11⟩ := h
  obtain ⟨c1, c2, c3⟩ := h1
  obtain ⟨d1, d2, d3⟩ := h2
  have e1 : ∀ c, ¬ (c = 101 ∨ (119 ≤ c ∧ c ≤ 126) ∨ c = 155) → V1 c = V c := c3
  have e2 : ∀ c, c ≠ 156 → ¬ (159 ≤ c ∧ c ≤ 172) → V2 c = V1 c := fun c z y => funext fun i => d3 c i (fun q => z q.1) y
  have e3 : ∀ c, c ≠ 156 → ¬ (159 ≤ c ∧ c ≤ 172) → ¬ (c = 101 ∨ (119 ≤ c ∧ c ≤ 126) ∨ c = 155) → V2 c = V c := fun c z y x => by rw [e2 c z y, e1 c x]
  have e4 : ∀ i, ¬ (4 ≤ i ∧ i ≤ 9) → V2 156 i = V 156 i := fun i z => by rw [d3 156 i (fun q => z q.2) (by decide), e1 156 (by decide)]
  refine ⟨(a1.ks hk).fr a3.1.d26 a3.1.d27 (fun c z => ?_) ?_ ?_, ⟨?_, ?_, ?_, d2, d1⟩, a3, a4, a5, a6, a7, a8.mv ?_ ?_ (e4 24 (by decide)) ?_, a9.mv (fun c z1 z2 => e3 c (by omega) (by omega) (by omega)) ?_ ?_ ?_, by rw [hk.1]; exact a10, ?_⟩
  · have z' : ¬ (c = 101 ∨ (119 ≤ c ∧ c ≤ 126) ∨ (143 ≤ c ∧ c ≤ 177)) := fun q => z (by
      rcases q with q | q | q
      · exact Or.inl q
      · exact Or.inr (Or.inl q)
      · exact Or.inr (Or.inr (Or.inl q)))
    exact e3 c (by omega) (by omega) (by omega)
  · rw [e2 119 (by decide) (by decide)]; exact c1
  · rw [e2 155 (by decide) (by decide)]; exact c2
  · rw [e3 157 (by decide) (by decide) (by decide)]; exact m1
  · rw [e3 158 (by decide) (by decide) (by decide)]; exact m2
  · rw [e4 2 (by decide)]; exact m3
  · exact e3 143 (by decide) (by decide) (by decide)
  · exact e3 144 (by decide) (by decide) (by decide)
  · exact e3 173 (by decide) (by decide) (by decide)
  · exact e3 174 (by decide) (by decide) (by decide)
  · exact e3 175 (by decide) (by decide) (by decide)
  · exact e3 176 (by decide) (by decide) (by decide)
  · rw [e3 30 (by decide) (by decide) (by decide)]; exact a11
/-- an act -/
theorem Iv.w {n : Int} {L : Nat} {g : Int → Int} {K K' : Sk} {V V1 V2 : Mm} {D D' E : Int → Int} {im k : Int} {er : Int → Int} (h : Iv n L g K V D E im er) (hk : kF K K') (ho : oF V V1) (h1 : CI K' V1 D' E im (erK er k)) (hD : DW D') (hZ : DZ D') (h2 : MW V1 D' k V2) : Iv n L g K' V2 D' E im (erK er k) := by
  obtain ⟨a1, ⟨m1, m2, m3, m4, m5⟩, a3, a4, a5, a6, a7, a8, a9, a10, a11⟩ := h
  obtain ⟨d1, d2, d3, d4⟩ := h2
  have e2 : ∀ c, c ≠ 156 → c ≠ 157 → ¬ (159 ≤ c ∧ c ≤ 172) → V2 c = V1 c := fun c z x y => funext fun i => d4 c i (fun q => z q.1) x y
  have e3 : ∀ c, c < 100 ∨ (143 ≤ c ∧ c ≤ 154) ∨ c = 158 ∨ (173 ≤ c ∧ c < 178) → V2 c = V c := fun c z => by rw [e2 c (by omega) (by omega) (by omega), ho c (by omega)]
  have e4 : ∀ i, ¬ (4 ≤ i ∧ i ≤ 9) → V2 156 i = V 156 i := fun i z => by rw [d4 156 i (fun q => z q.2) (by decide) (by decide), ho 156 (by decide)]
  refine ⟨h1.m hD.1 (fun c z => e2 c (by omega) (by omega) (by omega)), ⟨d2, ?_, ?_, ?_, d1⟩, hD, hZ, a5, a6, a7, a8.mv ?_ ?_ (e4 24 (by decide)) ?_, a9.mv (fun c z1 z2 => e3 c (by omega)) ?_ ?_ ?_, by rw [hk 30 (by decide)]; exact a10, ?_⟩
  · rw [e3 158 (by decide)]; exact m2
  · rw [e4 2 (by decide)]; exact m3
  · rw [d3, ho 159 (by decide), m4]
  · exact e3 143 (by decide)
  · exact e3 144 (by decide)
  · exact e3 173 (by decide)
  · exact e3 174 (by decide)
  · exact e3 175 (by decide)
  · exact e3 176 (by decide)
  · rw [e3 30 (by decide)]; exact a11
/-! what acts leave of a row -/
theorem TxOk.cg {D D' : Int → Int} {u : Int} (hu : u = 0 ∨ u = 1) (h : TxOk D u) (e : ∀ i, i = 26 + u ∨ (48 + 50 * u ≤ i ∧ i < 98 + 50 * u) → D' i = D i) : TxOk D' u := by
  have t1 := e (26 + u) (Or.inl rfl)
  have t0 := h.1
  have t2 := tfD_cg hu e h.1.2
  refine ⟨by rw [t1]; exact h.1, fun z => ?_⟩
  rw [t1] at z ⊢
  rw [t2]
  obtain ⟨a, b⟩ := h.2 z
  exact ⟨a, fun i i0 i1 => by rw [e _ (by omega)]; exact b i i0 i1⟩
theorem DL.cg {D D' : Int → Int} (h : DL D) (hc : DCnt D') (hK : ∀ p, 0 ≤ p → p < 6 → (0 ≤ D' (3 + p) ∧ D' (3 + p) ≤ 6) ∧ 0 ≤ D' (9 + p) ∧ D' (9 + p) ≤ 9) (hF : wfF D') (e : ∀ i, i = 22 ∨ i = 26 ∨ i = 27 ∨ (48 ≤ i ∧ i < 148) → D' i = D i) : DL D' := by
  refine ⟨hc, ⟨hK, h.2.1.2.cg (Or.inl rfl) (fun i z => e i (by omega))⟩, hF, h.2.2.2.1.cg (Or.inr rfl) (fun i z => e i (by omega)), ?_⟩
  rw [e 22 (Or.inl rfl)]
  exact h.2.2.2.2
/-- but counts, met, spent, z, laws and fences all is as it was -/
theorem DW.cg {D D' : Int → Int} (h : DW D) (hc : DCnt D') (hK : ∀ p, 0 ≤ p → p < 6 → (0 ≤ D' (3 + p) ∧ D' (3 + p) ≤ 6) ∧ 0 ≤ D' (9 + p) ∧ D' (9 + p) ≤ 9) (hF : wfF D') (e : ∀ i, i = 21 ∨ i = 22 ∨ (24 ≤ i ∧ i < 200) → D' i = D i) : DW D' := by
  obtain ⟨a1, a2, a3, a4, a5, a6⟩ := h
  refine ⟨a1.cg hc hK hF (fun i z => e i (by omega)), by rw [e 21 (by omega)]; exact a2, by rw [e 24 (by omega)]; exact a3, fun i i0 i1 => ?_, by rw [e 25 (by omega)]; exact a5, fun i i0 i1 => ?_⟩
  · rw [e 24 (by omega)] at i1; rw [e _ (by omega)]; exact a4 i i0 i1
  · rw [e 25 (by omega)] at i1; rw [e _ (by omega)]; exact a6 i i0 i1
theorem DZ.up {D : Int → Int} {i x : Int} (h : DZ D) (hi : 0 ≤ i ∧ i < 200) : DZ (up D i x) := fun j hj => by rw [up_ne (by omega)]; exact h j hj
theorem DW.be {D : Int → Int} {s v : Int} (h : DW D) (hk : beK D s v = 0) : DW (up D s v) ∧ (0 ≤ s ∧ s < 3) := by
  have hct2 : 0 ≤ D 0 ∧ 0 ≤ D 1 ∧ 0 ≤ D 2 ∧ D 0 + D 1 + D 2 ≤ 12 := h.1.1
  unfold beK at hk
  have hs : (0 ≤ s ∧ s < 3) ∧ 0 ≤ v ∧ v ≤ 12 := Decidable.byContradiction fun z => by rw [if_neg z] at hk; exact absurd hk (by decide)
  rw [if_pos hs] at hk
  have h12 : ¬ 12 < D 0 + D 1 + D 2 - D s + v := fun z => by rw [if_pos z] at hk; exact absurd hk (by decide)
  refine ⟨h.cg ?_ (fun p h0 h1 => by rw [up_ne (by omega), up_ne (by omega)]; exact h.1.2.1.1 p h0 h1) (fun p hp => by rw [up_ne (by omega)]; exact h.1.2.2.1 p hp) (fun i z => up_ne (by omega)), hs.1⟩
  unfold DCnt
  rcases (show s = 0 ∨ s = 1 ∨ s = 2 by omega) with z | z | z <;> subst z
  · rw [up_self, up_ne (by decide), up_ne (by decide)]; omega
  · rw [up_self, up_ne (by decide), up_ne (by decide)]; omega
  · rw [up_self, up_ne (by decide), up_ne (by decide)]; omega
theorem DW.law {D : Int → Int} {p km : Int} (h : DW D) (hk : laK p km = 0) : DW (up (up D (3 + p) (km / 10)) (9 + p) (km % 10)) ∧ (0 ≤ p ∧ p < 6) := by
  unfold laK at hk
  have hs : (0 ≤ p ∧ p < 6) ∧ 0 ≤ km ∧ km ≤ 69 := Decidable.byContradiction fun z => by rw [if_neg z] at hk; exact absurd hk (by decide)
  have cg : ∀ i, i ≠ 3 + p → i ≠ 9 + p → up (up D (3 + p) (km / 10)) (9 + p) (km % 10) i = D i := fun i z y => by rw [up_ne y, up_ne z]
  refine ⟨h.cg ?_ (fun q h0 h1 => ?_) (fun q hq => by rw [cg _ (by omega) (by omega)]; exact h.1.2.2.1 q hq) (fun i z => cg i (by omega) (by omega)), hs.1⟩
  · unfold DCnt; rw [cg 0 (by omega) (by omega), cg 1 (by omega) (by omega), cg 2 (by omega) (by omega)]; exact h.1.1
  · by_cases z : q = p
    · rw [z, up_self, up_ne (by omega), up_self]; omega
    · rw [cg _ (by omega) (by omega), cg _ (by omega) (by omega)]; exact h.1.2.1.1 q h0 h1
theorem DW.fence {D : Int → Int} {p v : Int} (h : DW D) (hk : fnK p v = 0) : DW (up D (15 + p) v) ∧ (0 ≤ p ∧ p < 6) := by
  unfold fnK at hk
  have hs : (0 ≤ p ∧ p < 6) ∧ 0 ≤ v ∧ v ≤ 1 := Decidable.byContradiction fun z => by rw [if_neg z] at hk; exact absurd hk (by decide)
  have cg : ∀ i, i ≠ 15 + p → up D (15 + p) v i = D i := fun i z => up_ne z
  refine ⟨h.cg ?_ (fun q h0 h1 => by rw [cg _ (by omega), cg _ (by omega)]; exact h.1.2.1.1 q h0 h1) (fun q hq => ?_) (fun i z => cg i (by omega)), hs.1⟩
  · unfold DCnt; rw [cg 0 (by omega), cg 1 (by omega), cg 2 (by omega)]; exact h.1.1
  · by_cases z : q = p
    · rw [z, up_self]; omega
    · rw [cg _ (by omega)]; exact h.1.2.2.1 q hq
theorem DW.z {D : Int → Int} {x : Int} (h : DW D) : DW (up D 23 x) :=
  h.cg h.1.1 (fun p h0 h1 => by rw [up_ne (by omega), up_ne (by omega)]; exact h.1.2.1.1 p h0 h1) (fun p hp => by rw [up_ne (by omega)]; exact h.1.2.2.1 p hp) (fun i z => up_ne (by omega))
/-- from D 21 and Sm3 -/
theorem DW.s3 {D D' : Int → Int} (h : DW D) (hL : DL D') (hs : Sm3 D D') (h21 : 0 ≤ D' 21 ∧ D' 21 ≤ 9999) : DW D' := by
  obtain ⟨a1, a2, a3, a4, a5, a6⟩ := h
  have e : ∀ i, 24 ≤ i → D' i = D i := fun i z => hs i (by omega) (by omega) (by omega) (by omega)
  refine ⟨hL, h21, by rw [e 24 (by decide)]; exact a3, fun i i0 i1 => ?_, by rw [e 25 (by decide)]; exact a5, fun i i0 i1 => ?_⟩
  · rw [e 24 (by decide)] at i1; rw [e _ (by omega)]; exact a4 i i0 i1
  · rw [e 25 (by decide)] at i1; rw [e _ (by omega)]; exact a6 i i0 i1
theorem DZ.bc {D : Int → Int} {t : Int} (h : DZ D) : DZ (bcD D t) := ((h.up (by decide)).up (by decide)).up (by decide)
theorem DZ.me {D : Int → Int} {p : Int} (h : DZ D) : DZ (meD D p) := DZ.bc ((h.up (by decide)).up (by decide))
theorem DZ.ch {D : Int → Int} (h : DZ D) : DZ (chD D) := by
  unfold chD
  split
  · exact h
  · split
    · exact h.up (by decide)
    · exact DZ.me (h.up (by decide))
theorem DZ.chN {D : Int → Int} (h : DZ D) : ∀ n, DZ (chN D n)
  | 0 => h
  | n + 1 => (DZ.chN h n).ch
theorem DZ.fd {D : Int → Int} {w : Int} (h : DZ D) (h24 : 0 ≤ D 24) : ∀ n : Nat, D 24 + n ≤ 50 → DZ (fdD D w n)
  | 0, _ => h
  | n + 1, hn => ((DZ.fd h h24 n (by omega)).up (by omega)).up (by decide)
theorem DW.fd {D : Int → Int} {w : Int} (h : DW D) (n : Nat) (hn : D 24 + n ≤ 50) : DW (fdD D w n) := by
  obtain ⟨a1, a2, a3, a4, a5, a6⟩ := h
  have cg : ∀ i, i ≠ 24 → i < 148 → fdD D w n i = D i := fun i z y => fdD_o n i z (by omega)
  have by' : ∀ k : Nat, D 24 + k ≤ 50 → ∀ i, 0 ≤ i → i < D 24 + k → 0 ≤ fdD D w k (148 + i) ∧ fdD D w k (148 + i) < 256 := by
    intro k
    induction k with
    | zero => exact fun _ i i0 i1 => a4 i i0 (by omega)
    | succ k ih =>
      intro hk i i0 i1
      show 0 ≤ up (up (fdD D w k) (148 + (D 24 + k)) (bytF w k)) 24 (D 24 + k + 1) (148 + i) ∧ up (up (fdD D w k) (148 + (D 24 + k)) (bytF w k)) 24 (D 24 + k + 1) (148 + i) < 256
      rw [up_ne (show (148 + i : Int) ≠ 24 by omega)]
      by_cases z : i = D 24 + k
      · rw [z, up_self]; exact byte_r _
      · rw [up_ne (by omega)]; exact ih (by omega) i i0 (by omega)
  refine ⟨a1.cg ?_ (fun p h0 h1 => by rw [cg _ (by omega) (by omega), cg _ (by omega) (by omega)]; exact a1.2.1.1 p h0 h1) (fun p hp => by rw [cg _ (by omega) (by omega)]; exact a1.2.2.1 p hp) (fun i z => cg i (by omega) (by omega)), by rw [cg 21 (by decide) (by decide)]; exact a2, by rw [fdD_24]; omega, fun i i0 i1 => ?_, by rw [cg 25 (by decide) (by decide)]; exact a5, fun i i0 i1 => ?_⟩
  · unfold DCnt; rw [cg 0 (by decide) (by decide), cg 1 (by decide) (by decide), cg 2 (by decide) (by decide)]; exact a1.1
  · rw [fdD_24] at i1; exact by' n hn i i0 i1
  · rw [cg 25 (by decide) (by decide)] at i1; rw [cg _ (by omega) (by omega)]; exact a6 i i0 i1
theorem DW.tx {D : Int → Int} {u : Int} (h : DW D) (hZ : DZ D) (hu : u = 0 ∨ u = 1) : DW (txD D u) ∧ DZ (txD D u) := by
  obtain ⟨a1, a2, a3, a4, a5, a6⟩ := h
  unfold txD
  by_cases hye : txF D u = -1
  · rw [if_pos hye]
    obtain ⟨l, hl, l1, l2⟩ := tx_ok a3.1 hye
    have cg : ∀ i, ¬ (48 + 50 * u ≤ i ∧ i < 48 + 50 * u + D 24) → i ≠ 24 → i ≠ 26 + u → txC D u (D 24) i = D i := fun i z1 z2 z3 => txC_o z1 z2 z3
    have d24 := txC_24 (D := D) hu
    have d26 := txC_26 (D := D) hu
    have dtf := txC_tf (D := D) hu
    have dby : ∀ i, 0 ≤ i → i < D 24 → txC D u (D 24) (48 + 50 * u + i) = D (148 + i) := fun i i0 i1 => by
      unfold txC
      rw [if_pos (by omega), show 148 + (48 + 50 * u + i - (48 + 50 * u)) = 148 + i by omega]
    have hTx : ∀ u', (u' = 0 ∨ u' = 1) → TxOk D u' → TxOk (txC D u (D 24)) u' := fun u' hu' z => by
      by_cases q : u' = u
      · rw [q, TxOk, d26, dtf]
        exact ⟨a3, fun _ => ⟨⟨l, hl⟩, fun i i0 i1 => by rw [dby i i0 i1]; exact a4 i i0 i1⟩⟩
      · exact z.cg hu' (fun i y => cg i (by omega) (by omega) (by omega))
    refine ⟨⟨⟨?_, ⟨fun p h0 h1 => ?_, hTx 0 (Or.inl rfl) a1.2.1.2⟩, fun p hp => ?_, hTx 1 (Or.inr rfl) a1.2.2.2.1, ?_⟩, ?_, ?_, fun i i0 i1 => ?_, ?_, fun i i0 i1 => ?_⟩, fun j hj => ?_⟩
    · unfold DCnt; rw [cg 0 (by omega) (by omega) (by omega), cg 1 (by omega) (by omega) (by omega), cg 2 (by omega) (by omega) (by omega)]; exact a1.1
    · rw [cg _ (by omega) (by omega) (by omega), cg _ (by omega) (by omega) (by omega)]; exact a1.2.1.1 p h0 h1
    · rw [cg _ (by omega) (by omega) (by omega)]; exact a1.2.2.1 p hp
    · rw [cg 22 (by omega) (by omega) (by omega)]; exact a1.2.2.2.2
    · rw [cg 21 (by omega) (by omega) (by omega)]; exact a2
    · rw [d24]; decide
    · rw [d24] at i1; omega
    · rw [cg 25 (by omega) (by omega) (by omega)]; exact a5
    · rw [cg 25 (by omega) (by omega) (by omega)] at i1; rw [cg _ (by omega) (by omega) (by omega)]; exact a6 i i0 i1
    · rw [cg j (by omega) (by omega) (by omega)]; exact hZ j hj
  · rw [if_neg hye]
    have cg : ∀ i, i ≠ 24 → up D 24 0 i = D i := fun i z => up_ne z
    refine ⟨⟨a1.cg a1.1 (fun p h0 h1 => by rw [cg _ (by omega), cg _ (by omega)]; exact a1.2.1.1 p h0 h1) (fun p hp => by rw [cg _ (by omega)]; exact a1.2.2.1 p hp) (fun i z => cg i (by omega)), by rw [cg 21 (by decide)]; exact a2, by rw [up_self]; decide, fun i i0 i1 => by rw [up_self] at i1; omega, by rw [cg 25 (by decide)]; exact a5, fun i i0 i1 => ?_⟩, hZ.up (by decide)⟩
    rw [cg 25 (by decide)] at i1; rw [cg _ (by omega)]; exact a6 i i0 i1
theorem DW.te {D : Int → Int} {v : Int} (h : DW D) (hv : R32 v) (hk : D 25 < 20) : DW (up (up D (28 + D 25) v) 25 (D 25 + 1)) := by
  obtain ⟨a1, a2, a3, a4, a5, a6⟩ := h
  have cg : ∀ i, i ≠ 25 → i ≠ 28 + D 25 → up (up D (28 + D 25) v) 25 (D 25 + 1) i = D i := fun i z y => by rw [up_ne z, up_ne y]
  refine ⟨a1.cg ?_ (fun p h0 h1 => by rw [cg _ (by omega) (by omega), cg _ (by omega) (by omega)]; exact a1.2.1.1 p h0 h1) (fun p hp => by rw [cg _ (by omega) (by omega)]; exact a1.2.2.1 p hp) (fun i z => cg i (by omega) (by omega)), by rw [cg 21 (by decide) (by omega)]; exact a2, by rw [cg 24 (by decide) (by omega)]; exact a3, fun i i0 i1 => ?_, by rw [up_self]; omega, fun i i0 i1 => ?_⟩
  · unfold DCnt; rw [cg 0 (by decide) (by omega), cg 1 (by decide) (by omega), cg 2 (by decide) (by omega)]; exact a1.1
  · rw [cg 24 (by decide) (by omega)] at i1; rw [cg _ (by omega) (by omega)]; exact a4 i i0 i1
  · rw [up_self] at i1
    by_cases z : i = D 25
    · rw [z, up_ne (by omega), up_self]; exact hv
    · rw [cg _ (by omega) (by omega)]; exact a6 i i0 (by omega)
theorem DW.ck {D : Int → Int} (h : DW D) : DW (up D 25 0) := by
  obtain ⟨a1, a2, a3, a4, a5, a6⟩ := h
  have cg : ∀ i, i ≠ 25 → up D 25 0 i = D i := fun i z => up_ne z
  refine ⟨a1.cg a1.1 (fun p h0 h1 => by rw [cg _ (by omega), cg _ (by omega)]; exact a1.2.1.1 p h0 h1) (fun p hp => by rw [cg _ (by omega)]; exact a1.2.2.1 p hp) (fun i z => cg i (by omega)), by rw [cg 21 (by decide)]; exact a2, by rw [cg 24 (by decide)]; exact a3, fun i i0 i1 => ?_, by rw [up_self]; decide, fun i i0 i1 => by rw [up_self] at i1; omega⟩
  rw [cg 24 (by decide)] at i1; rw [cg _ (by omega)]; exact a4 i i0 i1
