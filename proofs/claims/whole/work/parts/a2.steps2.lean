/-! ===== tell, check, judge, images, voices, sheets ===== -/
section ST
variable {γ : Gh} {n : Int} {L : Nat} {g : Int → Int} {K : Sk} {V : Mm} {D E : Int → Int} {im : Int} {er : Int → Int}
theorem wt_CI {W : Mm} {D' : Int → Int} (h : CI K V D E im er) (hw : DL D) (h24 : D 24 ≤ 50) (cg : ∀ i, i ≠ 25 → ¬ (28 ≤ i ∧ i < 48) → D' i = D i) (hf : ∀ c, c ≠ 107 → c ≠ 108 → W c = V c) (h7 : W 107 1 = D' 25) (h8 : ∀ i, 0 ≤ i → i < D' 25 → W 108 i = D' (28 + i)) : CI K W D' E im er := by
  refine ⟨h.1.sc (fun i z => cg i (by omega) (by omega)) hw.d26 hw.d27 (fun c _ c2 _ => hf c (by omega) (by omega)) (by rw [hf 102 (by decide) (by decide)]) (by rw [hf 119 (by decide) (by decide)]; exact h.1.ok) (by rw [hf 155 (by decide) (by decide)]; exact h.1.2.2.2.2.2.2.2), ?_⟩
  obtain ⟨s1, s2, s3, s4, s5, s6, s7, s8, s9⟩ := h.2
  have e3 := hf 102 (by decide) (by decide)
  have e1 : nowS D' = nowS D := by unfold nowS; rw [cg 0 (by decide) (by decide), cg 1 (by decide) (by decide), cg 2 (by decide) (by decide)]
  have e2 : fS D' = fS D := fS_cg (fun i y1 y2 => cg i (by omega) (by omega))
  refine ⟨by rw [e3, e1]; exact s1, by rw [e3, e2]; exact s2, by rw [e3, cg 21 (by decide) (by decide)]; exact s3, by rw [e3, cg 22 (by decide) (by decide)]; exact s4, by rw [e3, cg 23 (by decide) (by decide)]; exact s5, by rw [hf _ (by decide) (by decide), cg 24 (by decide) (by decide)]; exact s6, fun i i0 i1 => ?_, h7, h8⟩
  rw [cg 24 (by decide) (by decide)] at i1
  rw [hf _ (by decide) (by decide), cg _ (by omega) (by omega)]
  exact s7 i i0 i1
theorem st_tell (h : Iv n L g K V D E im er) {v : Int} (hv : R32 v) : St γ n L g vI M_X11_tell M_X12_tell [vI v] 0 0 K V := by
  have hw := h.2.2.1.1
  have h25 := h.2.2.1.2.2.2.2.1
  have h24 := h.2.2.1.2.2.1
  have s8 : V 107 1 = D 25 := h.1.2.2.2.2.2.2.2.2.1
  have s9 : ∀ i, 0 ≤ i → i < D 25 → V 108 i = D (28 + i) := h.1.2.2.2.2.2.2.2.2.2
  refine st_w (D' := aD (teK D) D (up (up D (28 + D 25) v) 25 (D 25 + 1))) (k := teK D) (Q2 := fun K1 V1 K2 V2 => K2 = K1 ∧ V2 = mU V1 (aD (teK D) D (up (up D (28 + D 25) v) 25 (D 25 + 1))) (teK D)) h (by decide) (by decide) (c_tell h.1.1.L h25 s8) (fun K1 V1 hq => ?_) (fun K1 V1 hq hmq ho => m_tell hmq.1 hmq.2.1 h25) (fun K1 V1 K2 V2 hq hZ _ => mU_MW hq hZ) ?_
  · rw [hq.1, hq.2]
    refine ⟨kF.rf, ?_⟩
    by_cases z : D 25 = 20
    · have hk : teK D = 4 := by unfold teK; rw [if_pos z]
      rw [hk]
      exact ⟨oF_err, h.1.e hw (by decide)⟩
    · have hk : teK D = 0 := by unfold teK; rw [if_neg z]
      rw [hk]
      refine ⟨fun c y => ?_, wt_CI h.1 hw h24.2 (fun i y1 y2 => ?_) (fun c c1 c2 => ?_) ?_ (fun i i0 i1 => ?_)⟩
      · show rAdd V 107 108 v c = V c
        unfold rAdd; rw [wr_off (by omega), wr_off (by omega)]
      · show up (up D (28 + D 25) v) 25 (D 25 + 1) i = D i
        rw [up_ne y1, up_ne (by omega)]
      · show rAdd V 107 108 v c = V c
        unfold rAdd; rw [wr_off c1, wr_off c2]
      · show rAdd V 107 108 v 107 1 = up (up D (28 + D 25) v) 25 (D 25 + 1) 25
        unfold rAdd; rw [wr_self, up_self, s8]
      · change i < up (up D (28 + D 25) v) 25 (D 25 + 1) 25 at i1
        rw [up_self] at i1
        show rAdd V 107 108 v 108 i = up (up D (28 + D 25) v) 25 (D 25 + 1) (28 + i)
        unfold rAdd
        rw [wr_off (by decide), wr_row, s8, up_ne (show (28 + i : Int) ≠ 25 by omega)]
        by_cases y : i = D 25
        · rw [y, up_self, up_self]
        · rw [up_ne y, up_ne (by omega)]; exact s9 i i0 (by omega)
  · by_cases z : D 25 = 20
    · have hk : teK D = 4 := by unfold teK; rw [if_pos z]
      rw [hk]; exact ⟨h.2.2.1, h.2.2.2.1⟩
    · have hk : teK D = 0 := by unfold teK; rw [if_neg z]
      rw [hk]; exact ⟨h.2.2.1.te hv (by omega), (h.2.2.2.1.up (by omega)).up (by decide)⟩
theorem st_check (h : Iv n L g K V D E im er) : St γ n L g vI M_X11_check M_X12_check [] 0 0 K V := by
  have hw := h.2.2.1.1
  have h25 := h.2.2.1.2.2.2.2.1
  have h24 := h.2.2.1.2.2.1
  have hwt := h.2.2.1.2.2.2.2.2
  have s8 : V 107 1 = D 25 := h.1.2.2.2.2.2.2.2.2.1
  have s9 : ∀ i, 0 ≤ i → i < D 25 → V 108 i = D (28 + i) := h.1.2.2.2.2.2.2.2.2.2
  refine st_w (D' := up D 25 0) (k := 0) (Q2 := fun K1 V1 K2 V2 => K2 = K1 ∧ MW V1 (up D 25 0) 0 V2) h (by decide) (by decide) (c_check h.1.1.2.2.1 hw.1 h25 hwt h.1.2.1 s8 s9) (fun K1 V1 hq => ?_) (fun K1 V1 hq hmq ho => m_check hmq h25 hwt) (fun K1 V1 K2 V2 hq _ _ => hq) ⟨h.2.2.1.ck, h.2.2.2.1.up (by decide)⟩
  rw [hq.1, hq.2]
  exact ⟨kF.rf, fun c y => wr_off (by omega), wt_CI h.1 hw h24.2 (fun i y1 _ => up_ne y1) (fun c c1 _ => wr_off c1) (by rw [wr_self, up_self]) (fun i i0 i1 => by rw [up_self] at i1; omega)⟩
theorem st_judge (h : Iv n L g K V D E im er) {s : Int} (hs : R32 s) : St γ n L g vI M_X11_judge M_X12_judge [vI s] 0 0 K V := by
  have hw := h.2.2.1.1
  obtain ⟨b1, b2⟩ := h.2.2.2.2.2.2.2.2.1
  have hc := c_judge (γ := γ) h.1.1.2.2.1 hw.1 h.1.2.1 hs (fun s0 s1 => by
    obtain ⟨z1, z2, z3, z4⟩ := b2 s s0 s1
    rw [b1, z2]
    exact ⟨by omega, z3, fun i i0 i1 => (z4 i i0 i1).1⟩)
  have ex : aR (jdK (V 154 s) s) (jdG (comF D) (fS D) (fun i => V (shA s + 1) i) (V (shA s) 1).toNat (nowS D) 0) = aR (jdK (V 174 s) s) (jdG (comF D) (fS D) (fun i => V 176 (40 * s + i)) (V 175 s).toNat (nowS D) 0) := by
    rw [b1]
    by_cases z : 0 ≤ s ∧ s < 4
    · obtain ⟨z1, z2, z3, z4⟩ := b2 s z.1 z.2
      rw [z2, jdG_cg (f := fun i => V (shA s + 1) i) (g := fun i => V 176 (40 * s + i)) (V 175 s).toNat (nowS D) 0 (fun j j0 j1 => by
        obtain ⟨y1, y2, y3, y4⟩ := z4 j j0 (by omega)
        exact ⟨y3, y4⟩)]
    · have : jdK (V 174 s) s = 1 := by unfold jdK; rw [if_neg z]
      rw [this]
      rfl
  rw [ex, b1] at hc
  refine st_w (dm := 42) (D' := D) (k := jdK (V 174 s) s) (Q2 := fun K1 V1 K2 V2 => K2 = K1 ∧ MW V1 D (jdK (V 174 s) s) V2) h (by decide) (by decide) hc (fun K1 V1 hq => ?_) (fun K1 V1 hq hmq ho => ?_) (fun K1 V1 K2 V2 hq _ _ => hq) ⟨h.2.2.1, h.2.2.2.1⟩
  · rw [hq.1, hq.2]
    exact ⟨kF.rf, ce_CI h.1 hw⟩
  · have hm := m_judge (γ := γ) hmq hs (fun s0 s1 => by
      obtain ⟨z1, z2, z3, z4⟩ := b2 s s0 s1
      rw [ho 174 (by decide), ho 175 (by decide), ho 176 (by decide)]
      exact ⟨by omega, z3, fun i i0 i1 => (z4 i i0 i1).2.1⟩)
    rw [ho 174 (by decide), ho 175 (by decide), ho 176 (by decide)] at hm
    exact hm
theorem cp_all {D E : Int → Int} (hD : DZ D) (hE : DZ E) : cpy D E 0 0 200 = D := by
  funext j
  unfold cpy
  by_cases z : 0 ≤ j ∧ j < 0 + 200
  · rw [if_pos z, show 0 + (j - 0) = j by omega]
  · rw [if_neg z, hD j (by omega), hE j (by omega)]
theorem st_image (h : Iv n L g K V D E im er) : St γ n L g vI M_X11_image M_X12_image [] 0 0 K V := by
  have hw := h.2.2.1.1
  refine ⟨im + 1, 4, 1, _, by decide, by decide, c_image h.1 hw h.2.2.1.2.2.1 h.2.2.1.2.2.2.2.1 h.2.2.2.2.2.2.1.1, fun K1 V1 hq => ?_⟩
  obtain ⟨a1, a2, a3⟩ := hq
  have hL := a3.1.L
  have e2 : V1 156 2 = im := by rw [a2 156 (by decide)]; exact h.2.1.2.2.1
  have hm := m_image (γ := γ) (V := V1) hL
  rw [e2] at hm
  refine ⟨⟨hL, by rw [a1 30 (by decide)]; exact h.s30.1, by rw [a2 30 (by decide)]; exact h.s30.2⟩, fun K2 V2 => K2 = K1 ∧ V2 = wr (setr V1 158 (cpy (V1 157) (V1 158) 0 0 200)) 156 2 (im + 1), hm, fun K2 V2 hq2 => ?_⟩
  obtain ⟨hk2, hv2⟩ := hq2
  rw [hk2]
  have e7 : V1 157 = D := by rw [a2 157 (by decide)]; exact h.2.1.1
  have e8 : V1 158 = E := by rw [a2 158 (by decide)]; exact h.2.1.2.1
  rw [e7, e8, cp_all h.2.2.2.1 h.2.2.2.2.1] at hv2
  have f0 : ∀ c, c ≠ 156 → c ≠ 158 → V2 c = V1 c := fun c c1 c2 => by rw [hv2, wr_off c1, setr_ne c2]
  have f1 : ∀ i, i ≠ 2 → V2 156 i = V1 156 i := fun i z => by rw [hv2, wr_ne (by omega), setr_ne (by decide)]
  obtain ⟨x1, ⟨m1, m2, m3, m4, m5⟩, x3, x4, x5, x6, x7, x8, x9, x10, x11⟩ := h
  have g0 : ∀ c, c < 100 ∨ (143 ≤ c ∧ c ≤ 154) ∨ (159 ≤ c ∧ c < 178) ∨ c = 157 → V2 c = V c := fun c z => by rw [f0 c (by omega) (by omega), a2 c (by omega)]
  refine ⟨D, D, im + 1, er, a3.m hw (fun c z => f0 c (by omega) (by omega)), ⟨?_, ?_, ?_, ?_, fun j z => ?_⟩, x3, x4, x4, fun _ => x3, ⟨by omega, by omega⟩, x8.mv (g0 143 (by decide)) (g0 144 (by decide)) ?_ (g0 173 (by decide)), x9.mv (fun c z1 z2 => g0 c (by omega)) (g0 174 (by decide)) (g0 175 (by decide)) (g0 176 (by decide)), by rw [a1 30 (by decide)]; exact x10, by rw [g0 30 (by decide)]; exact x11⟩
  · rw [g0 157 (by decide)]; exact m1
  · rw [hv2, wr_off (by decide), setr_self]
  · rw [hv2, wr_self]
  · rw [g0 159 (by decide)]; exact m4
  · rw [g0 161 (by decide)]; exact m5 j z
  · rw [f1 24 (by decide), a2 156 (by decide)]
theorem st_restore (h : Iv n L g K V D E im er) (hn : n < 1000) : St γ n L g vI M_X11_restore M_X12_restore [] 0 0 K V := by
  have hw := h.2.2.1.1
  have him := h.2.2.2.2.2.2.1
  have him2 : 0 ≤ im ∧ im < 1000000 := by omega
  refine st_w (D' := aD (if im = 0 then 2 else 0) D E) (k := if im = 0 then 2 else 0) (dm := 1) (Q2 := fun K1 V1 K2 V2 => K2 = K1 ∧ V2 = mU V1 (aD (if im = 0 then 2 else 0) D E) (if im = 0 then 2 else 0)) h (by decide) (by decide) (c_restore h.1 hw him2 (fun z => ⟨(h.2.2.2.2.2.1 z).1, (h.2.2.2.2.2.1 z).2.2.1, (h.2.2.2.2.2.1 z).2.2.2.2.1⟩)) (fun K1 V1 hq => hq) (fun K1 V1 hq hmq ho => ?_) (fun K1 V1 K2 V2 hq hZ _ => mU_MW hq hZ) ?_
  · have e2 : V1 156 2 = im := by rw [ho 156 (by decide)]; exact h.2.1.2.2.1
    have e8 : V1 158 = E := by rw [ho 158 (by decide)]; exact h.2.1.2.1
    have hm := m_restore (γ := γ) hmq.1 hmq.2.1 (by rw [e2]; exact him2)
    rw [e2, e8, cp_all h.2.2.2.2.1 h.2.2.2.1] at hm
    exact hm
  · by_cases z : im = 0
    · rw [if_pos z]; exact ⟨h.2.2.1, h.2.2.2.1⟩
    · rw [if_neg z]; exact ⟨h.2.2.2.2.2.1 (by omega), h.2.2.2.2.1⟩
theorem ct_tr : ∀ (l : List Int) (V W : Mm), V 143 1 = W 156 24 → (∀ i, 0 ≤ i → i < V 143 1 → V 144 i = W 173 i) → ∀ i, 0 ≤ i → i < V 143 1 + l.length → ctW V l 144 i = trW W l 173 i
  | [], V, W, _, h2, i, i0, i1 => h2 i i0 (by simpa using i1)
  | b :: l, V, W, h1, h2, i, i0, i1 => by
    show ctW (rAdd V 143 144 b) l 144 i = trW (wr (wr W 173 (W 156 24) b) 156 24 (W 156 24 + 1)) l 173 i
    have e1 : rAdd V 143 144 b 143 1 = V 143 1 + 1 := by unfold rAdd; rw [wr_self]
    refine ct_tr l _ _ ?_ (fun j j0 j1 => ?_) i i0 ?_
    · rw [e1, wr_self, h1]
    · rw [e1] at j1
      have e2 : rAdd V 143 144 b 144 = up (V 144) (V 143 1) b := by unfold rAdd; rw [wr_off (by decide), wr_row]
      rw [e2, wr_off (by decide), wr_row, h1]
      by_cases z : j = W 156 24
      · rw [z, up_self, up_self]
      · rw [up_ne z, up_ne z]; exact h2 j j0 (by omega)
    · rw [e1]; simp only [List.length_cons] at i1; omega
theorem st_voice (h : Iv n L g K V D E im er) {p a x : Int} (hp : R32 p) (ha : R32 a) : St γ n L g vI M_X11_voice M_X12_voice [vI p, vI a, vI x] 0 0 K V := by
  have hw := h.2.2.1.1
  have hL := h.1.1.L
  have hc := c_voice (γ := γ) h.1 hw (x := x) hp ha
  by_cases z : voK p a = 0
  · rw [if_pos z] at hc
    obtain ⟨l, hl⟩ : ∃ l, voL a (D (3 + p)) = l := ⟨_, rfl⟩
    have hln : l.length ≤ 24 := by rw [← hl]; exact voL_n _ _
    rw [hl] at hc
    refine ⟨_, 8, 10, fun K1 V1 => K1 = K ∧ V1 = ctW (wr V 143 1 0) l, by decide, by decide, hc, fun K1 V1 hq => ?_⟩
    obtain ⟨hk1, hv1⟩ := hq
    rw [hk1]
    have f0 : ∀ c, c ≠ 143 → c ≠ 144 → V1 c = V c := fun c c1 c2 => by rw [hv1, ctW_o l _ c c1 c2, wr_off c1]
    have hmq := h.mq hL (f0 157 (by decide) (by decide)) (f0 161 (by decide) (by decide))
    have hm := m_voice (γ := γ) hmq.1 hmq.2.1 hw.2.1 (x := x) hp ha
    rw [if_pos z] at hm
    refine ⟨⟨hL, h.s30.1, by rw [f0 30 (by decide) (by decide)]; exact h.s30.2⟩, fun K2 V2 => K2 = K ∧ V2 = voW V1 p a (D (3 + p)), hm, fun K2 V2 hq2 => ?_⟩
    obtain ⟨hk2, hv2⟩ := hq2
    rw [hk2]
    unfold voW at hv2
    rw [hl] at hv2
    obtain ⟨x1, ⟨m1, m2, m3, m4, m5⟩, x3, x4, x5, x6, x7, x8, x9, x10, x11⟩ := h
    have g0 : ∀ c, c ≠ 156 → c ≠ 173 → V2 c = V1 c := fun c c1 c2 => by rw [hv2, trW_row c2 c1, wr_off c1, wr_off c1]
    have g1 : ∀ c, c ≠ 143 → c ≠ 144 → c ≠ 156 → c ≠ 173 → V2 c = V c := fun c c1 c2 c3 c4 => by rw [g0 c c3 c4, f0 c c1 c2]
    have n0 : wr V 143 1 0 143 1 = 0 := wr_self
    have n1 : V1 143 1 = l.length := by rw [hv1, ctW_n, n0]; omega
    have n2 : wr (wr V1 156 24 0) 156 25 p 156 24 = 0 := by rw [wr_ne (by decide), wr_self]
    have n3 : V2 156 24 = l.length := by rw [hv2, trW_n, n2]; omega
    have hfr : CI K V2 D E im er := by
      refine x1.fr hw.d26 hw.d27 (fun c y => ?_) ?_ ?_
      · have y' : ¬ (143 ≤ c ∧ c ≤ 177) := fun q => y (Or.inr (Or.inr (Or.inl q)))
        exact g1 c (by omega) (by omega) (by omega) (by omega)
      · rw [g1 119 (by decide) (by decide) (by decide) (by decide)]; exact x1.1.ok
      · rw [g1 155 (by decide) (by decide) (by decide) (by decide)]; exact x1.1.2.2.2.2.2.2.2
    refine Iv.mo (n := n) ⟨hfr, ⟨?_, ?_, ?_, ?_, fun j y => ?_⟩, x3, x4, x5, x6, x7, ⟨?_, ?_, fun i i0 i1 => ?_⟩, x9.mv (fun c z1 z2 => g1 c (by omega) (by omega) (by omega) (by omega)) ?_ ?_ ?_, x10, ?_⟩
    · rw [g1 157 (by decide) (by decide) (by decide) (by decide)]; exact m1
    · rw [g1 158 (by decide) (by decide) (by decide) (by decide)]; exact m2
    · rw [hv2, trW_o l _ 156 2 (by decide) (by decide), wr_ne (by decide), wr_ne (by decide), f0 156 (by decide) (by decide)]; exact m3
    · rw [g1 159 (by decide) (by decide) (by decide) (by decide)]; exact m4
    · rw [g1 161 (by decide) (by decide) (by decide) (by decide)]; exact m5 j y
    · rw [g0 143 (by decide) (by decide), n1, n3]
    · rw [n3]; omega
    · rw [n3] at i1
      rw [g0 144 (by decide) (by decide), hv1, hv2]
      exact ct_tr l (wr V 143 1 0) (wr (wr V1 156 24 0) 156 25 p) (by rw [n0, wr_ne (by decide), wr_self]) (fun j j0 j1 => by rw [n0] at j1; omega) i i0 (by rw [n0]; omega)
    · exact g1 174 (by decide) (by decide) (by decide) (by decide)
    · exact g1 175 (by decide) (by decide) (by decide) (by decide)
    · exact g1 176 (by decide) (by decide) (by decide) (by decide)
    · rw [g1 30 (by decide) (by decide) (by decide) (by decide)]; exact x11
  · have hk : voK p a = 1 := by
      unfold voK at z ⊢
      by_cases q : (0 ≤ p ∧ p < 6) ∧ 0 ≤ a ∧ a ≤ 3
      · rw [if_pos q] at z; exact absurd rfl z
      · rw [if_neg q]
    rw [hk] at hc
    refine st_w (dm := 10) (D' := D) (k := 1) (Q2 := fun K1 V1 K2 V2 => K2 = K1 ∧ V2 = wr V1 159 1 (V1 159 1 + 1)) h (by decide) (by decide) hc (fun K1 V1 hq => ?_) (fun K1 V1 hq hmq ho => ?_) (fun K1 V1 K2 V2 hq hZ hD => ⟨hq.1, by rw [hq.2]; exact MW_e hZ hD (by decide)⟩) ⟨h.2.2.1, h.2.2.2.1⟩
    · rw [hq.1, hq.2]
      exact ⟨kF.rf, oF_err, h.1.e hw (by decide)⟩
    · have hm := m_voice (γ := γ) hmq.1 hmq.2.1 hw.2.1 (x := x) hp ha
      rw [hk] at hm
      exact hm
end ST
