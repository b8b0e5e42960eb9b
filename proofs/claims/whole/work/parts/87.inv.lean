/-! ===== the class's picture of the row D ===== -/
/-- a row of values of some text: nothing is told of it -/
def vrow (K : Sk) (c : Nat) : Prop := 181 ≤ c ∧ (K.1 c).1 = 1 ∧ (K.1 (c - 1)).1 = 1
def LTA (K : Sk) (V : Mm) (a : Nat) (D : Int → Int) : Prop := (∀ p, 0 ≤ p ∧ p < 6 → LawA K V (K.2.1 (a + 1) p) p (D (3 + p)) (D (9 + p))) ∧ TI K V (a + 2) D 0 ∧ TI K V (a + 2) D 1
def SCA (V : Mm) (a : Nat) (D : Int → Int) : Prop := V a 4 = nowS D ∧ V a 5 = fS D ∧ V a 6 = D 21 ∧ V a 7 = D 22 ∧ V a 8 = D 23 ∧ V (a + 3) 1 = D 24 ∧ (∀ i, 0 ≤ i → i < D 24 → V (a + 4) i = D (148 + i)) ∧ V (a + 5) 1 = D 25 ∧ ∀ i, 0 ≤ i → i < D 25 → V (a + 6) i = D (28 + i)
theorem LawA.mv {K K' : Sk} {V W : Mm} {c : Nat} {p kd m : Int} (h : LawA K V c p kd m) (hk : ∀ c, (K.1 c).1 ≠ 0 → K'.1 c = K.1 c) (hv : ∀ c, ownA c → ¬ vrow K c → (K.1 c).1 ≠ 0 → W c = V c) : LawA K' W c p kd m := by
  obtain ⟨a0, a1, a2, a3, a4, a5, a6⟩ := h
  have e := hv c a6 (fun z => by have := z.2.1; omega) (by omega)
  exact ⟨by rw [hk c (by omega)]; exact a0, by rw [e]; exact a1, by rw [e]; exact a2, by rw [e]; exact a3, by rw [e]; exact a4, by rw [e]; exact a5, a6⟩
theorem TxA.mv {K K' : Sk} {V W : Mm} {t : Nat} {D : Int → Int} {u : Int} (h : TxA K V t D u) (hk : ∀ c, (K.1 c).1 ≠ 0 → K'.1 c = K.1 c) (hr : ∀ c j, 178 ≤ c → (K.1 c).1 ≠ 0 → K'.2.1 c j = K.2.1 c j) (hv : ∀ c, ownA c → ¬ vrow K c → (K.1 c).1 ≠ 0 → W c = V c) : TxA K' W t D u := by
  obtain ⟨t1, t2, t3, t4, ⟨r1, r2, r3, r4, r5, r6, r7⟩, t6, l, hl, l1, l2, l3⟩ := h
  have o1 : ownA (t + 1) := Or.inr (Or.inr (by omega))
  have o2 : ownA (t + 2) := Or.inr (Or.inr (by omega))
  have k0 : (K.1 t).1 ≠ 0 := by rw [t2]; show (18 : Nat) ≠ 0; decide
  have k1 : (K.1 (t + 1)).1 ≠ 0 := by rw [r1]; decide
  have k2 : (K.1 (t + 2)).1 ≠ 0 := by rw [r3]; show (1 : Nat) ≠ 0; decide
  have k3 : (K.1 (t + 3)).1 ≠ 0 := by rw [t6]; show (1 : Nat) ≠ 0; decide
  have v1 := hv (t + 1) o1 (fun z => by have := z.2.1; omega) k1
  have v2 := hv (t + 2) o2 (fun z => by have := z.2.2; rw [show t + 2 - 1 = t + 1 by omega] at this; omega) k2
  exact ⟨t1, by rw [hk t k0]; exact t2, by rw [hr t 2 t1 k0]; exact t3, by rw [hr t 3 t1 k0]; exact t4, ⟨by rw [hk _ k1]; exact r1, by rw [hr _ 0 (by omega) k1]; exact r2, by rw [hk _ k2]; exact r3, r4, r5, r6, r7⟩, by rw [hk _ k3]; exact t6, l, hl, by rw [v1]; exact l1, l2, fun j y hj => by rw [v2]; exact l3 j y hj⟩
theorem TI.mv {K K' : Sk} {V W : Mm} {ta : Nat} {D : Int → Int} {u : Int} (h : TI K V ta D u) (hk : ∀ c, (K.1 c).1 ≠ 0 → K'.1 c = K.1 c) (hr : ∀ c j, 178 ≤ c → (K.1 c).1 ≠ 0 → K'.2.1 c j = K.2.1 c j) (he : K'.2.1 ta u = K.2.1 ta u) (hv : ∀ c, ownA c → ¬ vrow K c → (K.1 c).1 ≠ 0 → W c = V c) : TI K' W ta D u := by
  unfold TI at h ⊢
  rw [he]
  rcases h with z | z
  · exact Or.inl z
  · exact Or.inr ⟨z.1, z.2.mv hk hr hv⟩
theorem LTA.mv {K K' : Sk} {V W : Mm} {a : Nat} {D : Int → Int} (h : LTA K V a D) (hk : ∀ c, (K.1 c).1 ≠ 0 → K'.1 c = K.1 c) (hr : ∀ c j, (c = a + 1 ∨ c = a + 2 ∨ 178 ≤ c) → (K.1 c).1 ≠ 0 → K'.2.1 c j = K.2.1 c j) (h1 : (K.1 (a + 1)).1 ≠ 0) (h2 : (K.1 (a + 2)).1 ≠ 0) (hv : ∀ c, ownA c → ¬ vrow K c → (K.1 c).1 ≠ 0 → W c = V c) : LTA K' W a D :=
  ⟨fun p hp => by rw [hr (a + 1) p (Or.inl rfl) h1]; exact (h.1 p hp).mv hk hv, h.2.1.mv hk (fun c j z => hr c j (Or.inr (Or.inr z))) (hr _ _ (Or.inr (Or.inl rfl)) h2) hv, h.2.2.mv hk (fun c j z => hr c j (Or.inr (Or.inr z))) (hr _ _ (Or.inr (Or.inl rfl)) h2) hv⟩
theorem tfD_cg {D D' : Int → Int} {u : Int} (hu : u = 0 ∨ u = 1) (h : ∀ i, i = 26 + u ∨ (48 + 50 * u ≤ i ∧ i < 98 + 50 * u) → D' i = D i) (h6 : D (26 + u) ≤ 50) : tfD D' u = tfD D u := by
  unfold tfD
  rw [h (26 + u) (Or.inl rfl)]
  exact rs_eq (fun i h0 h1 => h _ (by omega))
theorem TI.cg {K : Sk} {V : Mm} {ta : Nat} {D D' : Int → Int} {u : Int} (hu : u = 0 ∨ u = 1) (h : TI K V ta D u) (e : ∀ i, i = 26 + u ∨ (48 + 50 * u ≤ i ∧ i < 98 + 50 * u) → D' i = D i) (h6 : D (26 + u) ≤ 50) : TI K V ta D' u := by
  have e1 := e (26 + u) (Or.inl rfl)
  have e2 := tfD_cg hu e h6
  unfold TI TxA at h ⊢
  rw [e1, e2]
  exact h
theorem LTA.cg {K : Sk} {V : Mm} {a : Nat} {D D' : Int → Int} (h : LTA K V a D) (e : ∀ i, (3 ≤ i ∧ i < 15) ∨ i = 26 ∨ i = 27 ∨ (48 ≤ i ∧ i < 148) → D' i = D i) (h6 : D 26 ≤ 50) (h7 : D 27 ≤ 50) : LTA K V a D' :=
  ⟨fun p hp => by rw [e (3 + p) (by omega), e (9 + p) (by omega)]; exact h.1 p hp, h.2.1.cg (Or.inl rfl) (fun i z => e i (by omega)) h6, h.2.2.cg (Or.inr rfl) (fun i z => e i (by omega)) h7⟩
def Fr (K : Sk) : Prop := ∀ c, K.2.2 ≤ c → (K.1 c).1 = 0
theorem SCA.mv {V W : Mm} {a : Nat} {D : Int → Int} (h : SCA V a D) (hv : ∀ c, c = a ∨ (a + 3 ≤ c ∧ c ≤ a + 6) → W c = V c) : SCA W a D := by
  unfold SCA at h ⊢
  rw [hv a (Or.inl rfl), hv (a + 3) (by omega), hv (a + 4) (by omega), hv (a + 5) (by omega), hv (a + 6) (by omega)]
  exact h
theorem SS.mv {K K' : Sk} {V W : Mm} (h : SS K V) (hk : ∀ c, (K.1 c).1 ≠ 0 → K'.1 c = K.1 c) (hr : ∀ c j, c < 100 → K'.2.1 c j = K.2.1 c j) (hv : ∀ c, c < 100 → W c = V c) : SS K' W := by
  intro k hk7
  obtain ⟨⟨s1, s2, s3, s4, s5, s6, s7⟩, s8⟩ := h k hk7
  have k1 : (K.1 (10 + k)).1 ≠ 0 := by rw [s1]; decide
  have k2 : (K.1 (20 + k)).1 ≠ 0 := by rw [s4]; show (4 : Nat) ≠ 0; decide
  have v1 := hv (10 + k) (by omega)
  have v2 := hv (20 + k) (by omega)
  exact ⟨⟨by rw [hk _ k1]; exact s1, by rw [v1]; exact s2, by rw [hr _ _ (by omega)]; exact s3, by rw [hk _ k2]; exact s4, s5, s6, by rw [v2]; exact s7⟩, by rw [v2]; exact s8⟩
/-- all but the counts and rows of now -/
def CL (K : Sk) (V : Mm) (D E : Int → Int) (im : Int) (er : Int → Int) : Prop := Fr K ∧ SS K V ∧ SrP K V (comF D) (fS D) ∧ ChD V (comF D) ∧ LTA K V 102 D ∧ V 100 7 = im ∧ (0 < im → LTA K V 127 E ∧ SCA V 127 E) ∧ V 155 = er
def CI (K : Sk) (V : Mm) (D E : Int → Int) (im : Int) (er : Int → Int) : Prop := CL K V D E im er ∧ SCA V 102 D
/-- cells that questions and the reference may change -/
def scr (K : Sk) (c : Nat) : Prop := c = 101 ∨ (119 ≤ c ∧ c ≤ 126) ∨ (143 ≤ c ∧ c ≤ 177) ∨ vrow K c
theorem LTA.w {K : Sk} {V W : Mm} {a : Nat} {D : Int → Int} (h : LTA K V a D) (hv : ∀ c, ownA c → ¬ vrow K c → W c = V c) : LTA K W a D := by
  have e : ∀ c, ownA c → ¬ vrow K c → (K.1 c).1 ≠ 0 → W c = V c := fun c z y _ => hv c z y
  exact ⟨fun p hp => (h.1 p hp).mv (fun _ _ => rfl) e, h.2.1.mv (fun _ _ => rfl) (fun _ _ _ _ => rfl) rfl e, h.2.2.mv (fun _ _ => rfl) (fun _ _ _ _ => rfl) rfl e⟩
theorem CL.sc {K : Sk} {V W : Mm} {D D' E : Int → Int} {im : Int} {er er' : Int → Int} (h : CL K V D E im er) (hD : ∀ i, (3 ≤ i ∧ i < 21) ∨ i = 26 ∨ i = 27 ∨ (48 ≤ i ∧ i < 148) → D' i = D i) (h6 : D 26 ≤ 50) (h7 : D 27 ≤ 50) (hf : ∀ c, c ≠ 102 → ¬ (105 ≤ c ∧ c ≤ 108) → ¬ scr K c → W c = V c) (h5 : W 102 5 = V 102 5) (h119 : COk (comF D) (fS D) (W 119)) (h155 : W 155 = er') : CL K W D' E im er' := by
  obtain ⟨a1, a2, ⟨b1, b2, b3, b4, b5, b6, b7, b8⟩, a4, a5, a6, a7, a8⟩ := h
  have ec : comF D' = comF D := comF_cg (fun i z => hD i (by omega)) h6
  have ef : fS D' = fS D := fS_cg (fun i z1 z2 => hD i (by omega))
  have ns : ∀ c, c < 101 → ¬ scr K c := fun c hc z => by
    rcases z with z | z | z | z
    · omega
    · omega
    · omega
    · have := z.1; omega
  have nm : ∀ c, 109 ≤ c → c ≤ 118 → ¬ scr K c := fun c h1 h2 z => by
    rcases z with z | z | z | z
    · omega
    · omega
    · omega
    · have := z.1; omega
  have nk : ∀ c, 127 ≤ c → c ≤ 142 → ¬ scr K c := fun c h1 h2 z => by
    rcases z with z | z | z | z
    · omega
    · omega
    · omega
    · have := z.1; omega
  have no : ∀ c, ownA c → ¬ vrow K c → W c = V c := fun c h1 h2 => by
    have ho : (112 ≤ c ∧ c ≤ 117) ∨ (137 ≤ c ∧ c ≤ 142) ∨ 178 ≤ c := h1
    refine hf c (by omega) (by omega) (fun z => ?_)
    rcases z with z | z | z | z
    · omega
    · omega
    · omega
    · exact h2 z
  have f0 : ∀ c, c < 101 → W c = V c := fun c hc => hf c (by omega) (by omega) (ns c hc)
  rw [ec.symm] at b4 b6 b8 a4 h119
  rw [ef.symm] at b5 b6 b8 h119
  refine ⟨a1, a2.mv (fun _ _ => rfl) (fun _ _ _ => rfl) (fun c hc => f0 c (by omega)), ⟨b1, ?_, ?_, b4, b5, ⟨by rw [h5]; exact b6.1, fun p hp => ?_⟩, fun q hq => ?_, h119⟩, fun p hp => ?_, (a5.w no).cg (fun i z => hD i (by omega)) h6 h7, by rw [f0 100 (by decide)]; exact a6, fun z => ⟨(a7 z).1.w no, (a7 z).2.mv (fun c hc => hf c (by omega) (by omega) (nk c (by omega) (by omega)))⟩, h155⟩
  · unfold SV; rw [f0 1 (by decide), f0 2 (by decide), f0 3 (by decide)]; exact b2
  · unfold SV2; rw [f0 4 (by decide), f0 5 (by decide)]; exact b3
  · rw [hf 110 (by decide) (by decide) (nm 110 (by decide) (by decide)), hf 111 (by decide) (by decide) (nm 111 (by decide) (by decide))]; exact b6.2 p hp
  · rw [hf 118 (by decide) (by decide) (nm 118 (by decide) (by decide))]; exact b7 q hq
  · rw [hf 109 (by decide) (by decide) (nm 109 (by decide) (by decide))]; exact a4 p hp
theorem CL.L {K : Sk} {V : Mm} {D E : Int → Int} {im : Int} {er : Int → Int} (h : CL K V D E im er) : Lay K := h.2.2.1.1
theorem CL.ok {K : Sk} {V : Mm} {D E : Int → Int} {im : Int} {er : Int → Int} (h : CL K V D E im er) : COk (comF D) (fS D) (V 119) := h.2.2.1.2.2.2.2.2.2.2
/-- questions, and all that the reference does -/
theorem CI.fr {K : Sk} {V W : Mm} {D E : Int → Int} {im : Int} {er er' : Int → Int} (h : CI K V D E im er) (h6 : D 26 ≤ 50) (h7 : D 27 ≤ 50) (hf : ∀ c, ¬ scr K c → W c = V c) (h119 : COk (comF D) (fS D) (W 119)) (h155 : W 155 = er') : CI K W D E im er' := by
  have hn : ∀ c, 102 ≤ c → c ≤ 108 → W c = V c := fun c h1 h2 => hf c (fun z => by
    rcases z with z | z | z | z
    · omega
    · omega
    · omega
    · have := z.1; omega)
  exact ⟨h.1.sc (fun _ _ => rfl) h6 h7 (fun c _ _ z => hf c z) (by rw [hn 102 (by decide) (by decide)]) h119 h155, h.2.mv (fun c z => hn c (by omega) (by omega))⟩
theorem scr_err {K : Sk} : scr K 155 := Or.inr (Or.inr (Or.inl ⟨by decide, by decide⟩))
theorem vr_t {K : Sk} {V : Mm} {ta : Nat} {D : Int → Int} {u : Int} (h : TI K V ta D u) {c : Nat} (hc : 178 ≤ K.2.1 ta u ∧ c = K.2.1 ta u + 3) : vrow K c := by
  have hA := h.at3 hc.1
  obtain ⟨t1, t2, t3, t4, ⟨r1, r2, r3, r4, r5, r6, r7⟩, t6, _⟩ := hA
  refine ⟨by omega, ?_, ?_⟩
  · rw [hc.2, t6]
  · rw [hc.2, show K.2.1 ta u + 3 - 1 = K.2.1 ta u + 2 by omega, r3]
/-- behind rulesChanged -/
theorem CL.rc {K : Sk} {V W : Mm} {D E : Int → Int} {im : Int} {er : Int → Int} (hL : Lay K) (hFr : Fr K) (hSS : SS K V) (hV : SV V) (hV2 : SV2 V) (h118 : ∀ q, 0 ≤ q ∧ q < 455 → V 118 q = stF q) (hK : Kds D) (hwF : wfF D) (h5 : V 102 5 = fS D) (hLT : LTA K V 102 D) (him : V 100 7 = im) (hE : 0 < im → LTA K V 127 E ∧ SCA V 127 E) (h155 : V 155 = er) (hW : fR K V W ∧ St6 D 6 W ∧ ∀ j, 0 ≤ j ∧ j < 2730 → W 119 j = -2) : CL K W D E im er ∧ (SCA V 102 D → SCA W 102 D) := by
  obtain ⟨w1, ⟨w2, _⟩, w3⟩ := hW
  have nt : ∀ c, ¬ vrow K c → ¬ (178 ≤ K.2.1 104 0 ∧ c = K.2.1 104 0 + 3) := fun c z y => z (vr_t hLT.2.1 y)
  have nv : ∀ c, c < 178 → ¬ vrow K c := fun c hc z => by have := z.1; omega
  have f0 : ∀ c, c < 178 → c ≠ 109 → c ≠ 110 → c ≠ 111 → c ≠ 119 → W c = V c := fun c hc c1 c2 c3 c4 => w1 c c1 c2 c3 c4 (nt c (nv c hc))
  have no : ∀ c, ownA c → ¬ vrow K c → W c = V c := fun c h1 h2 => by
    have ho : (112 ≤ c ∧ c ≤ 117) ∨ (137 ≤ c ∧ c ≤ 142) ∨ 178 ≤ c := h1
    exact w1 c (by omega) (by omega) (by omega) (by omega) (nt c h2)
  refine ⟨⟨hFr, hSS.mv (fun _ _ => rfl) (fun _ _ _ => rfl) (fun c hc => f0 c (by omega) (by omega) (by omega) (by omega) (by omega)), ⟨hL, ?_, ?_, comF_wf hK, fS_r hwF, ⟨by rw [f0 102 (by decide) (by decide) (by decide) (by decide) (by decide)]; exact h5, fun p hp => (w2 p hp).2⟩, fun q hq => by rw [f0 118 (by decide) (by decide) (by decide) (by decide) (by decide)]; exact h118 q hq, fun q p hq hp => Or.inl (w3 _ (by omega))⟩, fun p hp => ?_, hLT.w no, by rw [f0 100 (by decide) (by decide) (by decide) (by decide) (by decide)]; exact him, fun z => ⟨(hE z).1.w no, (hE z).2.mv (fun c hc => f0 c (by omega) (by omega) (by omega) (by omega) (by omega))⟩, by rw [f0 155 (by decide) (by decide) (by decide) (by decide) (by decide)]; exact h155⟩, fun z => z.mv (fun c hc => f0 c (by omega) (by omega) (by omega) (by omega) (by omega))⟩
  · unfold SV; rw [f0 1 (by decide) (by decide) (by decide) (by decide) (by decide), f0 2 (by decide) (by decide) (by decide) (by decide) (by decide), f0 3 (by decide) (by decide) (by decide) (by decide) (by decide)]; exact hV
  · unfold SV2; rw [f0 4 (by decide) (by decide) (by decide) (by decide) (by decide), f0 5 (by decide) (by decide) (by decide) (by decide) (by decide)]; exact hV2
  · have a := (w2 p hp).1
    have a0 := a 0 (by decide)
    rw [Int.add_zero] at a0
    exact ⟨a0, a 1 (by decide), a 2 (by decide)⟩
