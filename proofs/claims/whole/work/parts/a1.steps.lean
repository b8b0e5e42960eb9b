/-! ===== one call of each ===== -/
/-- the class's call answers x, and so does the reference's behind it; the invariant holds behind both -/
def St (γ : Gh) (n : Int) (L : Nat) (g : Int → Int) (mk : Int → PV) (Xc Xm : MX) (as : List PV) (mc ms : Nat) (K : Sk) (V : Mm) : Prop := ∃ (x : Int) (dc dm : Nat) (Q1 : Sk → Mm → Prop), dc ≤ 48 ∧ dm ≤ 48 ∧ Call γ Xc dc mc ms (vR 100 :: as) K V (Qg (some (mk x)) Q1) ∧ ∀ K1 V1, Q1 K1 V1 → (Lay K1 ∧ K1.1 30 = (1, L) ∧ V1 30 = g) ∧ ∃ Q2 : Sk → Mm → Prop, Call γ Xm dm 0 0 (vR 156 :: as) K1 V1 (Qg (some (mk x)) Q2) ∧ ∀ K2 V2, Q2 K2 V2 → Inv (n + 1) L g K2 V2
theorem Iv.mo {n : Int} {L : Nat} {g : Int → Int} {K : Sk} {V : Mm} {D E : Int → Int} {im : Int} {er : Int → Int} (h : Iv n L g K V D E im er) : Inv (n + 1) L g K V := by
  obtain ⟨a1, a2, a3, a4, a5, a6, a7, a8⟩ := h
  exact ⟨D, E, im, er, a1, a2, a3, a4, a5, a6, ⟨a7.1, by omega⟩, a8⟩
section ST
variable {γ : Gh} {n : Int} {L : Nat} {g : Int → Int} {K : Sk} {V : Mm} {D E : Int → Int} {im : Int} {er : Int → Int}
theorem KS_rf (hL : Lay K) : KS K K := ⟨rfl, rfl, fun _ _ _ => rfl, hL⟩
theorem Iv.mq (h : Iv n L g K V D E im er) {K1 : Sk} {V1 : Mm} (hL : Lay K1) (h1 : V1 157 = V 157) (h2 : V1 161 = V 161) : MQy K1 V1 D := ⟨hL, by rw [h1]; exact h.2.1.1, h.2.2.1.1.1, h.2.2.1.1.2.1, h.2.2.1.1.2.2.1, fun j z => by rw [h2]; exact h.2.1.2.2.2.2 j z⟩
theorem Iv.e5 (h : Iv n L g K V D E im er) : V 155 = er := h.1.1.2.2.2.2.2.2.2
theorem Iv.s30 (h : Iv n L g K V D E im er) : K.1 30 = (1, L) ∧ V 30 = g := h.2.2.2.2.2.2.2.2.2
theorem st_k {mk : Int → PV} {x : Int} {Xc Xm : MX} {as : List PV} {dc dm : Nat} (f : (Int → Int) → Int → Int) (h : Iv n L g K V D E im er) (d1 : dc ≤ 48) (d2 : dm ≤ 48) (hc : Call γ Xc dc 0 0 (vR 100 :: as) K V (Qg (some (mk x)) (fun K' W => KS K K' ∧ CS (comF D) (fS D) V (f (V 155)) W))) (hm : ∀ K1 V1, MQy K1 V1 D → Call γ Xm dm 0 0 (vR 156 :: as) K1 V1 (Qx (some (mk x)) K1 (MS V1 (f (V1 159))))) : St γ n L g mk Xc Xm as 0 0 K V := by
  refine ⟨x, dc, dm, _, d1, d2, hc, fun K1 V1 hq => ?_⟩
  obtain ⟨hk, hcs⟩ := hq
  have f0 : ∀ c, ¬ (c = 101 ∨ (119 ≤ c ∧ c ≤ 126) ∨ c = 155) → V1 c = V c := hcs.2.2
  have hL := hk.2.2.2
  refine ⟨⟨hL, by rw [hk.1]; exact h.s30.1, by rw [f0 30 (by decide)]; exact h.s30.2⟩, _, hm K1 V1 (h.mq hL (f0 157 (by decide)) (f0 161 (by decide))), fun K2 V2 hq2 => ?_⟩
  obtain ⟨hk2, hms⟩ := hq2
  rw [hk2]
  have e1 : V1 159 = er := by rw [f0 159 (by decide)]; exact h.2.1.2.2.2.1
  rw [e1] at hms
  rw [h.e5] at hcs
  exact (h.q hk hcs hms).mo
theorem st_q {mk : Int → PV} {x : Int} {Xc Xm : MX} {as : List PV} {dc dm : Nat} (f : (Int → Int) → Int → Int) (h : Iv n L g K V D E im er) (d1 : dc ≤ 48) (d2 : dm ≤ 48) (hc : Call γ Xc dc 0 0 (vR 100 :: as) K V (Qx (some (mk x)) K (CS (comF D) (fS D) V (f (V 155))))) (hm : ∀ K1 V1, MQy K1 V1 D → Call γ Xm dm 0 0 (vR 156 :: as) K1 V1 (Qx (some (mk x)) K1 (MS V1 (f (V1 159))))) : St γ n L g mk Xc Xm as 0 0 K V := by
  refine ⟨x, dc, dm, fun K' W => K' = K ∧ CS (comF D) (fS D) V (f (V 155)) W, d1, d2, hc, fun K1 V1 hq => ?_⟩
  obtain ⟨hk, hcs⟩ := hq
  rw [hk]
  have f0 : ∀ c, ¬ (c = 101 ∨ (119 ≤ c ∧ c ≤ 126) ∨ c = 155) → V1 c = V c := hcs.2.2
  have hL := h.1.1.L
  refine ⟨⟨hL, h.s30.1, by rw [f0 30 (by decide)]; exact h.s30.2⟩, _, hm K V1 (h.mq hL (f0 157 (by decide)) (f0 161 (by decide))), fun K2 V2 hq2 => ?_⟩
  obtain ⟨hk2, hms⟩ := hq2
  rw [hk2]
  have e1 : V1 159 = er := by rw [f0 159 (by decide)]; exact h.2.1.2.2.2.1
  rw [e1] at hms
  rw [h.e5] at hcs
  exact (h.q (KS_rf hL) hcs hms).mo
/-- an act: what the class leaves, what the reference leaves -/
theorem st_w {mk : Int → PV} {x k : Int} {D' : Int → Int} {Xc Xm : MX} {as : List PV} {dc dm mc ms : Nat} {Q1 : Sk → Mm → Prop} {Q2 : Sk → Mm → Sk → Mm → Prop} (h : Iv n L g K V D E im er) (d1 : dc ≤ 48) (d2 : dm ≤ 48) (hc : Call γ Xc dc mc ms (vR 100 :: as) K V (Qg (some (mk x)) Q1)) (h1 : ∀ K1 V1, Q1 K1 V1 → kF K K1 ∧ oF V V1 ∧ CI K1 V1 D' E im (erK er k)) (hm : ∀ K1 V1, Q1 K1 V1 → MQy K1 V1 D → oF V V1 → Call γ Xm dm 0 0 (vR 156 :: as) K1 V1 (Qg (some (mk x)) (Q2 K1 V1))) (h2 : ∀ K1 V1 K2 V2, Q2 K1 V1 K2 V2 → Z161 V1 → V1 157 = D → K2 = K1 ∧ MW V1 D' k V2) (hD : DW D' ∧ DZ D') : St γ n L g mk Xc Xm as mc ms K V := by
  refine ⟨x, dc, dm, Q1, d1, d2, hc, fun K1 V1 hq => ?_⟩
  obtain ⟨a1, a2, a3⟩ := h1 K1 V1 hq
  have hL := a3.1.L
  have hmq := h.mq hL (a2 157 (by decide)) (a2 161 (by decide))
  refine ⟨⟨hL, by rw [a1 30 (by decide)]; exact h.s30.1, by rw [a2 30 (by decide)]; exact h.s30.2⟩, Q2 K1 V1, hm K1 V1 hq hmq a2, fun K2 V2 hq2 => ?_⟩
  obtain ⟨hk2, hmw⟩ := h2 K1 V1 K2 V2 hq2 hmq.2.2.2.2.2 hmq.2.1
  rw [hk2]
  exact (h.w a1 a2 a3 hD.1 hD.2 hmw).mo
theorem mU_MW {V1 V2 : Mm} {D' : Int → Int} {k : Int} {K1 K2 : Sk} (hq : K2 = K1 ∧ V2 = mU V1 D' k) (hZ : Z161 V1) : K2 = K1 ∧ MW V1 D' k V2 := ⟨hq.1, by rw [hq.2]; exact MW_mU hZ⟩
theorem ce_CI {k : Int} (h : CI K V D E im er) (hw : DL D) : oF V (cE V k) ∧ CI K (cE V k) D E im (erK er k) := by
  unfold cE
  by_cases z : k = 0
  · rw [if_pos z, z]; exact ⟨oF.rf, h⟩
  · rw [if_neg z]; exact ⟨oF_err, h.e hw z⟩
theorem aDD (k : Int) (D : Int → Int) : aD k D D = D := by unfold aD; split <;> rfl
/-! the questions -/
theorem st_reach (h : Iv n L g K V D E im er) {t : Int} (ht : R32 t) : St γ n L g vI M_X11_reach M_X12_reach [vI t] 0 0 K V := st_q (reE (bF (comF D) (fS D) (nowS D)) t) h (by decide) (by decide) (c_reach h.1.1.2.2.1 (nowS_st h.2.2.1.1.1) h.1.2.1 ht) (fun K1 V1 hq => m_reach hq ht)
theorem st_way (h : Iv n L g K V D E im er) {t i : Int} (ht : R32 t) (hi : R32 i) : St γ n L g vI M_X11_way M_X12_way [vI t, vI i] 0 0 K V := st_q (wyE (bF (comF D) (fS D) (nowS D)) t i) h (by decide) (by decide) (c_way h.1.1.2.2.1 (nowS_st h.2.2.1.1.1) h.1.2.1 ht hi) (fun K1 V1 hq => m_way hq ht hi)
theorem st_can (h : Iv n L g K V D E im er) {k w : Int} (hk : R32 k) (hw : R32 w) : St γ n L g vI M_X11_can M_X12_can [vI k, vI w] 0 0 K V := st_q (caE (bF (comF D) (fS D) (nowS D)) k w) h (by decide) (by decide) (c_can h.1.1.2.2.1 (nowS_st h.2.2.1.1.1) h.1.2.1 hk hw) (fun K1 V1 hq => m_can hq hk hw)
theorem st_reached (h : Iv n L g K V D E im er) : St γ n L g vI M_X11_reached M_X12_reached [] 0 0 K V := st_q (fun e => e) h (by decide) (by decide) (c_reached h.1.1.2.2.1 (nowS_st h.2.2.1.1.1) h.1.2.1) (fun K1 V1 hq => m_reached hq)
theorem st_stays (h : Iv n L g K V D E im er) {k w : Int} (hk : R32 k) (hw : R32 w) : St γ n L g vI M_X11_stays M_X12_stays [vI k, vI w] 0 0 K V := st_q (syE (comF D) (fS D) k w) h (by decide) (by decide) (c_stays h.1.1.2.2.1 h.1.1.2.2.2.1 hk hw) (fun K1 V1 hq => m_stays hq hk hw)
theorem st_bars (h : Iv n L g K V D E im er) {s k : Int} (hs : R32 s) (hk : R32 k) : St γ n L g vI M_X11_bars M_X12_bars [vI s, vI k] 0 0 K V := st_q (baE (nowS D) s k) h (by decide) (by decide) (c_bars h.1.1.2.2.1 h.1.1.2.2.2.1 (nowS_st h.2.2.1.1.1) h.1.2.1 hs hk) (fun K1 V1 hq => m_bars hq hs hk)
theorem st_ways (h : Iv n L g K V D E im er) {m t : Int} (hm : R32 m) (ht : R32 t) : St γ n L g vL M_X11_ways M_X12_ways [vI m, vI t] 0 0 K V := st_k (wsE m t) h (by decide) (by decide) (c_ways h.1.1.2.2.1 (nowS_st h.2.2.1.1.1) h.1.2.1 hm ht) (fun K1 V1 hq => m_ways hq hm ht)
theorem st_allWays (h : Iv n L g K V D E im er) {m : Int} (hm : R32 m) : St γ n L g vL M_X11_allWays M_X12_allWays [vI m] 0 0 K V := st_k (awE m) h (by decide) (by decide) (c_allWays h.1.1.2.2.1 (nowS_st h.2.2.1.1.1) h.1.2.1 hm) (fun K1 V1 hq => m_allWays hq hm)
theorem st_fences (h : Iv n L g K V D E im er) {k w : Int} (hk : R32 k) (hw : R32 w) : St γ n L g vI M_X11_fences M_X12_fences [vI k, vI w] 0 0 K V := st_q (fcE (nowS D) k w) h (by decide) (by decide) (c_fences h.1.1.2.2.1 (nowS_st h.2.2.1.1.1) h.1.2.1 hk hw) (fun K1 V1 hq => m_fences hq hk hw)
theorem st_was (h : Iv n L g K V D E im er) {m w : Int} (hm : R32 m) (hw : R32 w) : St γ n L g vI M_X11_was M_X12_was [vI m, vI w] 0 0 K V := st_k (waE (comF D) (fS D) (nowS D) m w) h (by decide) (by decide) (c_was h.1.1.2.2.1 (nowS_st h.2.2.1.1.1) h.1.2.1 hm hw) (fun K1 V1 hq => m_was hq hm hw)
theorem st_force (h : Iv n L g K V D E im er) {k : Int} (hk : R32 k) : St γ n L g vI M_X11_force M_X12_force [vI k] 0 0 K V := st_q (foE (comF D) (fS D) (nowS D) k) h (by decide) (by decide) (c_force h.1.1.2.2.1 (nowS_st h.2.2.1.1.1) h.1.2.1 hk) (fun K1 V1 hq => m_force hq hk)
/-! the acts -/
theorem be_CI {s v : Int} (h : CI K V D E im er) (hw : DL D) (h25 : 0 ≤ D 25 ∧ D 25 ≤ 20) (hs : 0 ≤ s ∧ s < 3) : CI K (wr V 102 4 (nowS (up D s v))) (up D s v) E im er := by
  have cg : ∀ i, 3 ≤ i → up D s v i = D i := fun i z => up_ne (by omega)
  have hf : ∀ c, c ≠ 102 → wr V 102 4 (nowS (up D s v)) c = V c := fun c z => wr_off z
  have h2 : ∀ i, i ≠ 4 → wr V 102 4 (nowS (up D s v)) 102 i = V 102 i := fun i z => wr_ne (by omega)
  refine ⟨h.1.sc (fun i z => cg i (by omega)) hw.d26 hw.d27 (fun c c1 _ _ => hf c c1) (h2 5 (by decide)) (by rw [hf 119 (by decide)]; exact h.1.ok) (by rw [hf 155 (by decide)]; exact h.1.2.2.2.2.2.2.2), ?_⟩
  obtain ⟨s1, s2, s3, s4, s5, s6, s7, s8, s9⟩ := h.2
  have e2 : fS (up D s v) = fS D := fS_cg (fun i z1 z2 => cg i (by omega))
  refine ⟨wr_self, by rw [h2 5 (by decide), e2]; exact s2, by rw [h2 6 (by decide), cg 21 (by decide)]; exact s3, by rw [h2 7 (by decide), cg 22 (by decide)]; exact s4, by rw [h2 8 (by decide), cg 23 (by decide)]; exact s5, by rw [hf _ (by decide), cg 24 (by decide)]; exact s6, fun i i0 i1 => ?_, by rw [hf _ (by decide), cg 25 (by decide)]; exact s8, fun i i0 i1 => ?_⟩
  · rw [cg 24 (by decide)] at i1; rw [hf _ (by decide), cg _ (by omega)]; exact s7 i i0 i1
  · rw [cg 25 (by decide)] at i1; rw [hf _ (by decide), cg _ (by omega)]; exact s9 i i0 i1
theorem st_be (h : Iv n L g K V D E im er) {s v : Int} (hs : R32 s) (hv : R32 v) : St γ n L g vI M_X11_be M_X12_be [vI s, vI v] 0 0 K V := by
  have hw := h.2.2.1.1
  refine st_w (D' := aD (beK D s v) D (up D s v)) (k := beK D s v) (Q2 := fun K1 V1 K2 V2 => K2 = K1 ∧ V2 = mU V1 (aD (beK D s v) D (up D s v)) (beK D s v)) h (by decide) (by decide) (c_be h.1.1.L h.1.1.2.2.1.2.1 h.1.2.1 hw.1 hs hv) (fun K1 V1 hq => ?_) (fun K1 V1 hq hmq ho => m_be hmq.1 hmq.2.1 hw.1 hs hv) (fun K1 V1 K2 V2 hq hZ _ => mU_MW hq hZ) ?_
  · rw [hq.1, hq.2]
    refine ⟨kF.rf, ?_⟩
    by_cases z : beK D s v = 0
    · rw [if_pos z, z]
      exact ⟨fun c y => wr_off (by omega), be_CI h.1 hw h.2.2.1.2.2.2.2.1 (h.2.2.1.be z).2⟩
    · rw [if_neg z, show aD (beK D s v) D (up D s v) = D from if_neg z]
      exact ⟨oF_err, h.1.e hw z⟩
  · by_cases z : beK D s v = 0
    · rw [z]; exact ⟨(h.2.2.1.be z).1, h.2.2.2.1.up (by have := (h.2.2.1.be z).2; omega)⟩
    · rw [show aD (beK D s v) D (up D s v) = D from if_neg z]; exact ⟨h.2.2.1, h.2.2.2.1⟩
theorem st_of (h : Iv n L g K V D E im er) {s : Int} (hs : R32 s) : St γ n L g vI M_X11_of M_X12_of [vI s] 0 0 K V := by
  have hw := h.2.2.1.1
  have hc := c_of (γ := γ) h.1.1.L h.1.1.2.2.1.2.1 h.1.2.1 (isSt_lt (nowS_st hw.1)) hs
  have ex : aR (sK s) (cnt (nowS D) s) = aR (sK s) (D s) := by
    unfold aR sK
    by_cases z : 0 ≤ s ∧ s < 3
    · rw [if_pos z, cnt_D hw.1 z]
    · rw [if_neg z]; rfl
  rw [ex] at hc
  refine st_w (D' := D) (k := sK s) (Q2 := fun K1 V1 K2 V2 => K2 = K1 ∧ V2 = mU V1 (aD (sK s) D D) (sK s)) h (by decide) (by decide) hc (fun K1 V1 hq => ?_) (fun K1 V1 hq hmq ho => m_of hmq.1 hmq.2.1 hs) (fun K1 V1 K2 V2 hq hZ _ => by rw [aDD] at hq; exact mU_MW hq hZ) ⟨h.2.2.1, h.2.2.2.1⟩
  rw [hq.1, hq.2]
  exact ⟨kF.rf, ce_CI h.1 hw⟩
theorem st_law (h : Iv n L g K V D E im er) {p km : Int} (hp : R32 p) (hm : R32 km) : St γ n L g vI M_X11_law M_X12_law [vI p, vI km] 1 5 K V := by
  have hw := h.2.2.1.1
  refine st_w (D' := aD (laK p km) D (up (up D (3 + p) (km / 10)) (9 + p) (km % 10))) (k := laK p km) (Q2 := fun K1 V1 K2 V2 => K2 = K1 ∧ V2 = mU V1 (aD (laK p km) D (up (up D (3 + p) (km / 10)) (9 + p) (km % 10))) (laK p km)) h (by decide) (by decide) (c_law h.1 hw hp hm) (fun K1 V1 hq => hq) (fun K1 V1 hq hmq ho => m_law hmq.1 hmq.2.1 hp hm) (fun K1 V1 K2 V2 hq hZ _ => mU_MW hq hZ) ?_
  by_cases z : laK p km = 0
  · have hd := h.2.2.1.law z
    rw [z]; exact ⟨hd.1, (h.2.2.2.1.up (by have := hd.2; omega)).up (by have := hd.2; omega)⟩
  · rw [show aD (laK p km) D (up (up D (3 + p) (km / 10)) (9 + p) (km % 10)) = D from if_neg z]; exact ⟨h.2.2.1, h.2.2.2.1⟩
theorem st_fence (h : Iv n L g K V D E im er) {p v : Int} (hp : R32 p) (hv : R32 v) : St γ n L g vI M_X11_fence M_X12_fence [vI p, vI v] 0 0 K V := by
  have hw := h.2.2.1.1
  refine st_w (D' := aD (fnK p v) D (up D (15 + p) v)) (k := fnK p v) (Q2 := fun K1 V1 K2 V2 => K2 = K1 ∧ V2 = mU V1 (aD (fnK p v) D (up D (15 + p) v)) (fnK p v)) h (by decide) (by decide) (c_fence h.1 hw hp hv) (fun K1 V1 hq => ?_) (fun K1 V1 hq hmq ho => m_fence hmq.1 hmq.2.1 hp hv) (fun K1 V1 K2 V2 hq hZ _ => mU_MW hq hZ) ?_
  · obtain ⟨q1, q2⟩ := hq
    rw [q1]; exact ⟨kF.rf, q2⟩
  · by_cases z : fnK p v = 0
    · have hd := h.2.2.1.fence z
      rw [z]; exact ⟨hd.1, h.2.2.2.1.up (by have := hd.2; omega)⟩
    · rw [show aD (fnK p v) D (up D (15 + p) v) = D from if_neg z]; exact ⟨h.2.2.1, h.2.2.2.1⟩
theorem st_ofPair (h : Iv n L g K V D E im er) {p w : Int} (hp : R32 p) (hwr : R32 w) : St γ n L g vI M_X11_ofPair M_X12_ofPair [vI p, vI w] 0 0 K V := by
  have hw := h.2.2.1.1
  refine st_w (D' := D) (k := opK p w) (Q2 := fun K1 V1 K2 V2 => K2 = K1 ∧ MW V1 D (opK p w) V2) h (by decide) (by decide) (c_ofPair h.1 hw hp hwr) (fun K1 V1 hq => ?_) (fun K1 V1 hq hmq ho => m_ofPair hmq hp hwr) (fun K1 V1 K2 V2 hq _ _ => hq) ⟨h.2.2.1, h.2.2.2.1⟩
  obtain ⟨q1, q2⟩ := hq
  rw [q1]; exact ⟨kF.rf, q2⟩
theorem st_as (h : Iv n L g K V D E im er) {p k : Int} (hp : R32 p) (hk : R32 k) : St γ n L g vI M_X11_as M_X12_as [vI p, vI k] 0 0 K V := by
  have hw := h.2.2.1.1
  refine st_w (D' := D) (k := asK D p k) (Q2 := fun K1 V1 K2 V2 => K2 = K1 ∧ V2 = mU V1 (aD (asK D p k) D D) (asK D p k)) h (by decide) (by decide) (c_as h.1 hw hp hk) (fun K1 V1 hq => ?_) (fun K1 V1 hq hmq ho => m_as hmq.1 hmq.2.1 hw.2.1 hp hk) (fun K1 V1 K2 V2 hq hZ _ => by rw [aDD] at hq; exact mU_MW hq hZ) ⟨h.2.2.1, h.2.2.2.1⟩
  obtain ⟨q1, q2⟩ := hq
  rw [q1]; exact ⟨kF.rf, q2⟩
theorem st_feed (h : Iv n L g K V D E im er) {w m : Int} (hm : R32 m) : St γ n L g vI M_X11_feed M_X12_feed [vL w, vI m] 0 0 K V := by
  have hw := h.2.2.1.1
  have h24 := h.2.2.1.2.2.1
  have h25 := h.2.2.1.2.2.2.2.1
  refine st_w (D' := aD (fdK D m) D (fdD D w m.toNat)) (k := fdK D m) (Q2 := fun K1 V1 K2 V2 => K2 = K1 ∧ V2 = mU V1 (aD (fdK D m) D (fdD D w m.toNat)) (fdK D m)) h (by decide) (by decide) (c_feed h.1 hw h24 h25 hm) (fun K1 V1 hq => ?_) (fun K1 V1 hq hmq ho => m_feed hmq.1 hmq.2.1 h24 hm) (fun K1 V1 K2 V2 hq hZ _ => mU_MW hq hZ) ?_
  · obtain ⟨q1, q2⟩ := hq
    rw [q1]; exact ⟨kF.rf, q2⟩
  · by_cases z : fdK D m = 0
    · have hn : D 24 + (m.toNat : Nat) ≤ 50 := by
        unfold fdK at z
        have hs : 1 ≤ m ∧ m ≤ 8 := Decidable.byContradiction fun q => by rw [if_neg q] at z; exact absurd z (by decide)
        rw [if_pos hs] at z
        have h5 : ¬ 50 < D 24 + m := fun q => by rw [if_pos q] at z; exact absurd z (by decide)
        omega
      rw [z]; exact ⟨h.2.2.1.fd _ hn, h.2.2.2.1.fd h24.1 _ hn⟩
    · rw [show aD (fdK D m) D (fdD D w m.toNat) = D from if_neg z]; exact ⟨h.2.2.1, h.2.2.2.1⟩
theorem st_text (h : Iv n L g K V D E im er) {u : Int} (hu : R32 u) : St γ n L g vI M_X11_text M_X12_text [vI u] 4 108 K V := by
  have hw := h.2.2.1.1
  have h24 := h.2.2.1.2.2.1
  have h25 := h.2.2.1.2.2.2.2.1
  have hby := h.2.2.1.2.2.2.1
  refine st_w (D' := aD (usK u) D (txD D u)) (k := usK u) (Q2 := fun K1 V1 K2 V2 => K2 = K1 ∧ MW V1 (aD (usK u) D (txD D u)) (usK u) V2) h (by decide) (by decide) (c_text h.1 hw h24 h25 hby hu) (fun K1 V1 hq => hq) (fun K1 V1 hq hmq ho => m_text hmq h24 hby hu) (fun K1 V1 K2 V2 hq _ _ => hq) ?_
  by_cases z : usK u = 0
  · have hu2 : u = 0 ∨ u = 1 := Decidable.byContradiction fun q => by unfold usK at z; rw [if_neg q] at z; exact absurd z (by decide)
    rw [z]; exact h.2.2.1.tx h.2.2.2.1 hu2
  · rw [show aD (usK u) D (txD D u) = D from if_neg z]; exact ⟨h.2.2.1, h.2.2.2.1⟩
theorem st_gives (h : Iv n L g K V D E im er) {u a b c d : Int} (hu : R32 u) (ha : R32 a) (hb : R32 b) (hc : R32 c) (hd : R32 d) : St γ n L g vI M_X11_gives M_X12_gives [vI u, vI a, vI b, vI c, vI d] 0 0 K V := by
  have hw := h.2.2.1.1
  have hLT := h.1.1.2.2.2.2.1
  refine st_w (D' := D) (k := usK u) (Q1 := fun K1 V1 => K1 = K ∧ (if u = 0 ∨ u = 1 then fT K 104 u V V1 else V1 = err V 1)) (Q2 := fun K1 V1 K2 V2 => K2 = K1 ∧ (V2 159 = (if u = 0 ∨ u = 1 then V1 159 else up (V1 159) 1 (V1 159 1 + 1)) ∧ ∀ c i, ¬ (c = 156 ∧ 4 ≤ i ∧ i ≤ 9) → c ≠ 160 → c ≠ 159 → V2 c i = V1 c i)) h (by decide) (by decide) (c_gives h.1.1.L hLT.2.1 hLT.2.2 hw.2.1.2 hw.2.2.2.1 hu ha hb hc hd) (fun K1 V1 hq => ?_) (fun K1 V1 hq hmq ho => m_gives hmq.1 hmq.2.1 hu hw.2.1.2 hw.2.2.2.1 ha hb hc hd) (fun K1 V1 K2 V2 hq hZ hD1 => ?_) ⟨h.2.2.1, h.2.2.2.1⟩
  · obtain ⟨q1, q2⟩ := hq
    rw [q1]
    refine ⟨kF.rf, ?_⟩
    by_cases z : u = 0 ∨ u = 1
    · rw [if_pos z] at q2
      have ht := h.1.t hw z q2
      have hk : usK u = 0 := by unfold usK; rw [if_pos z]
      rw [hk]; exact ⟨ht.2, ht.1⟩
    · rw [if_neg z] at q2
      have hk : usK u = 1 := by unfold usK; rw [if_neg z]
      rw [hk, q2]; exact ⟨oF_err, h.1.e hw (by decide)⟩
  · obtain ⟨q1, q2, q3⟩ := hq
    refine ⟨q1, fun j z => ?_, ?_, ?_, fun c i z1 _ z3 => q3 c i z1 (by omega) (by omega)⟩
    · rw [q3 161 j (by omega) (by decide) (by decide)]; exact hZ j z
    · rw [← hD1]; exact funext fun i => q3 157 i (by omega) (by decide) (by decide)
    · rw [q2]
      unfold erK usK
      by_cases z : u = 0 ∨ u = 1
      · rw [if_pos z, if_pos z]; rfl
      · rw [if_neg z, if_neg z]; rfl
theorem st_meet (h : Iv n L g K V D E im er) {p : Int} (hp : R32 p) : St γ n L g vI M_X11_meet M_X12_meet [vI p] 0 0 K V := by
  have hw := h.2.2.1.1
  have h21 := h.2.2.1.2.1
  refine st_w (D' := aD (mtK D p) D (meD D p)) (k := mtK D p) (Q2 := fun K1 V1 K2 V2 => K2 = K1 ∧ MW V1 (aD (mtK D p) D (meD D p)) (mtK D p) V2) h (by decide) (by decide) (c_meet h.1 hw h21 h.2.2.1.2.2.2.2.1.2 h.2.2.1.2.2.1.2 hp) (fun K1 V1 hq => ?_) (fun K1 V1 hq hmq ho => m_meet hmq hw.2.2.2.1 h21 hw.2.2.2.2 hp) (fun K1 V1 K2 V2 hq _ _ => hq) ?_
  · obtain ⟨q1, q2⟩ := hq
    rw [q1]; exact ⟨kF.rf, q2⟩
  · by_cases z : mtK D p = 0
    · rw [show aD (mtK D p) D (meD D p) = meD D p from if_pos z]
      unfold mtK at z
      have hp6 : 0 ≤ p ∧ p < 6 := Decidable.byContradiction fun q => by rw [if_neg q] at z; exact absurd z (by decide)
      rw [if_pos hp6] at z
      have hno : ¬ (nx (comF D) (fS D) (nowS D) p = -1 ∨ D 21 = 9999) := fun q => by rw [if_pos q] at z; exact absurd z (by decide)
      have hm := (nx_ne (F := fS D) (comF_wf hw.2.1) hp6 (nowS_st hw.1)).mp (fun q => hno (Or.inl q))
      have h9 : D 21 ≠ 9999 := fun q => hno (Or.inr q)
      refine ⟨h.2.2.1.s3 (hw.me hp6 hm) Sm3.me ?_, h.2.2.2.1.me⟩
      rw [me_21.1]
      clear hm hno z
      omega
    · rw [show aD (mtK D p) D (meD D p) = D from if_neg z]; exact ⟨h.2.2.1, h.2.2.2.1⟩
theorem st_chance (h : Iv n L g K V D E im er) {m : Int} (hm : R32 m) : St γ n L g vI M_X11_chance M_X12_chance [vI m] 0 0 K V := by
  have hw := h.2.2.1.1
  have h21 := h.2.2.1.2.1
  refine st_w (D' := aD (cnK D m) D (chN D m.toNat)) (k := cnK D m) (Q2 := fun K1 V1 K2 V2 => K2 = K1 ∧ MW V1 (aD (cnK D m) D (chN D m.toNat)) (cnK D m) V2) h (by decide) (by decide) (c_chance h.1 hw h21 h.2.2.1.2.2.2.2.1.2 h.2.2.1.2.2.1.2 hm) (fun K1 V1 hq => ?_) (fun K1 V1 hq hmq ho => m_chance hmq hw.2.2.2.1 h21 hw.2.2.2.2 hm) (fun K1 V1 K2 V2 hq _ _ => hq) ?_
  · obtain ⟨q1, q2⟩ := hq
    rw [q1]; exact ⟨kF.rf, q2⟩
  · by_cases z : cnK D m = 0
    · rw [show aD (cnK D m) D (chN D m.toNat) = chN D m.toNat from if_pos z]
      unfold cnK at z
      have hs : 1 ≤ m ∧ m ≤ 60 := Decidable.byContradiction fun q => by rw [if_neg q] at z; exact absurd z (by decide)
      rw [if_pos hs] at z
      have h9 : ¬ 9999 < D 21 + m := fun q => by rw [if_pos q] at z; exact absurd z (by decide)
      obtain ⟨a1, a2, a3, a4⟩ := chN_ok hw m.toNat
      exact ⟨h.2.2.1.s3 a1 a2 (by omega), h.2.2.2.1.chN _⟩
    · rw [show aD (cnK D m) D (chN D m.toNat) = D from if_neg z]; exact ⟨h.2.2.1, h.2.2.2.1⟩
theorem st_seed (h : Iv n L g K V D E im er) {v : Int} : St γ n L g vI M_X11_seed M_X12_seed [vI v] 0 0 K V := by
  have hw := h.2.2.1.1
  have hc := c_seed (γ := γ) (V := V) (v := v) h.1.1.L
  rw [h.1.2.2.2.2.2.1] at hc
  refine st_w (D' := up D 23 v) (k := 0) (Q2 := fun K1 V1 K2 V2 => K2 = K1 ∧ V2 = mU V1 (aD 0 D (up D 23 v)) 0) h (by decide) (by decide) hc (fun K1 V1 hq => ?_) (fun K1 V1 hq hmq ho => m_seed hmq.1 hmq.2.1) (fun K1 V1 K2 V2 hq hZ _ => mU_MW hq hZ) ⟨h.2.2.1.z, h.2.2.2.1.up (by decide)⟩
  rw [hq.1, hq.2]
  exact ⟨kF.rf, fun c y => wr_off (by omega), z_CI h.1 hw h.2.2.1.2.2.2.2.1.2 (fun c z => wr_off z) wr_row⟩
theorem st_trace (h : Iv n L g K V D E im er) {i : Int} (hi : R32 i) : St γ n L g vI M_X11_trace M_X12_trace [vI i] 0 0 K V := by
  have hw := h.2.2.1.1
  obtain ⟨t1, t2, t3⟩ := h.2.2.2.2.2.2.2.1
  have hc := c_trace (γ := γ) h.1.1.L hi t1 t2
  obtain ⟨tm, htm⟩ : ∃ tm, V 156 24 = tm := ⟨_, rfl⟩
  rw [htm] at hc t2 t3
  have ex : aR (if 0 ≤ i ∧ i < tm then 0 else 2) (V 144 i) = aR (if 0 ≤ i ∧ i < tm then 0 else 2) (V 173 i) := by
    unfold aR
    by_cases z : 0 ≤ i ∧ i < tm
    · rw [if_pos z, t3 i z.1 z.2]
    · rw [if_neg z]; rfl
  rw [ex] at hc
  refine st_w (dm := 1) (D' := D) (k := if 0 ≤ i ∧ i < tm then 0 else 2) (Q2 := fun K1 V1 K2 V2 => K2 = K1 ∧ V2 = mU V1 (aD (if 0 ≤ i ∧ i < tm then 0 else 2) D D) (if 0 ≤ i ∧ i < tm then 0 else 2)) h (by decide) (by decide) hc (fun K1 V1 hq => ?_) (fun K1 V1 hq hmq ho => ?_) (fun K1 V1 K2 V2 hq hZ _ => by rw [aDD] at hq; exact mU_MW hq hZ) ⟨h.2.2.1, h.2.2.2.1⟩
  · rw [hq.1, hq.2]
    exact ⟨kF.rf, ce_CI h.1 hw⟩
  · rw [← ho 173 (by decide)]
    exact m_trace hmq.1 hmq.2.1 hi (by rw [ho 156 (by decide)]; exact htm) t2
theorem st_count (h : Iv n L g K V D E im er) {w : Int} (hwr : R32 w) : St γ n L g vI M_X11_count M_X12_count [vI w] 0 0 K V := by
  have hw := h.2.2.1.1
  obtain ⟨t1, t2, t3⟩ := h.2.2.2.2.2.2.2.1
  obtain ⟨s1, s2, s3, s4, s5, s6, s7, s8, s9⟩ := h.1.2
  refine st_w (D' := D) (k := coK w) (Q2 := fun K1 V1 K2 V2 => K2 = K1 ∧ V2 = mU V1 (aD (coK w) D D) (coK w)) h (by decide) (by decide) (c_count h.1.1.L hw.1 s1 s3 s4 s5 s6 s8 t1 hwr) (fun K1 V1 hq => ?_) (fun K1 V1 hq hmq ho => m_count hmq.1 hmq.2.1 hw.1 (by rw [ho 156 (by decide)]) hwr) (fun K1 V1 K2 V2 hq hZ _ => by rw [aDD] at hq; exact mU_MW hq hZ) ⟨h.2.2.1, h.2.2.2.1⟩
  rw [hq.1, hq.2]
  exact ⟨kF.rf, ce_CI h.1 hw⟩
theorem st_told (h : Iv n L g K V D E im er) {k : Int} (hk : R32 k) : St γ n L g vI M_X11_told M_X12_told [vI k] 0 0 K V := by
  have hw := h.2.2.1.1
  have hc := c_told (γ := γ) (V := V) h.1.1.L hk
  rw [h.e5] at hc
  refine st_w (dm := 1) (D' := D) (k := toK k) (Q2 := fun K1 V1 K2 V2 => K2 = K1 ∧ V2 = mU V1 (aD (toK k) D D) (toK k)) h (by decide) (by decide) hc (fun K1 V1 hq => ?_) (fun K1 V1 hq hmq ho => ?_) (fun K1 V1 K2 V2 hq hZ _ => by rw [aDD] at hq; exact mU_MW hq hZ) ⟨h.2.2.1, h.2.2.2.1⟩
  · rw [hq.1, hq.2]
    exact ⟨kF.rf, ce_CI h.1 hw⟩
  · have e : V1 159 = er := by rw [ho 159 (by decide)]; exact h.2.1.2.2.2.1
    have := m_told (γ := γ) hmq.1 hmq.2.1 hk
    rw [e] at this
    exact this
end ST
