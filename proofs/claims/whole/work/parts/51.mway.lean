/-! ===== the reference's way ===== -/
def LDs (C : Int → Int) (F : Int) (B : BS) (t w : Int) : Prop := ∃ m : Nat, Ch C F B t m w
theorem Ch_far {C : Int → Int} {F : Int} {B : BS} {t : Int} : ∀ (m : Nat) (w : Int), Ch C F B t m w → B.1 t = B.1 w + m
  | 0, w, h => by
    have h' : w = t := h
    rw [h']
    omega
  | m + 1, w, h => by
    obtain ⟨p, hp, h1, h2, h3⟩ := h
    have := Ch_far m _ h3
    omega
theorem LDs_iff {C : Int → Int} {F : Int} {B : BS} {t w : Int} : LDs C F B t w ↔ (w = t ∨ ∃ p, (0 ≤ p ∧ p < 6) ∧ nx C F w p ≠ -1 ∧ B.1 (nx C F w p) = B.1 w + 1 ∧ LDs C F B t (nx C F w p)) := by
  constructor
  · rintro ⟨m, h⟩
    cases m with
    | zero => exact Or.inl h
    | succ m =>
      obtain ⟨p, hp, h1, h2, h3⟩ := h
      exact Or.inr ⟨p, hp, h1, h2, m, h3⟩
  · rintro (h | ⟨p, hp, h1, h2, m, h3⟩)
    · exact ⟨0, h⟩
    · exact ⟨m + 1, p, hp, h1, h2, h3⟩
def I2 (C : Int → Int) (F : Int) (B : BS) (t k p : Int) (W : Mm) : Prop := ∀ j, 0 ≤ j → j < B.2.2.1 → (W 164 (B.2.1 j) = 0 ∨ W 164 (B.2.1 j) = 1) ∧ (k < j → (W 164 (B.2.1 j) = 1 ↔ LDs C F B t (B.2.1 j))) ∧ (j < k → (W 164 (B.2.1 j) = 1 ↔ B.2.1 j = t)) ∧ (j = k → (W 164 (B.2.1 k) = 1 ↔ (B.2.1 k = t ∨ ∃ p', (0 ≤ p' ∧ p' < p) ∧ nx C F (B.2.1 k) p' ≠ -1 ∧ B.1 (nx C F (B.2.1 k) p') = B.1 (B.2.1 k) + 1 ∧ LDs C F B t (nx C F (B.2.1 k) p'))))
theorem I2_down {C : Int → Int} {F t k : Int} {B : BS} {W : Mm} (h : I2 C F B t k 6 W) : I2 C F B t (k - 1) 0 W := fun j h0 h1 => by
  obtain ⟨a1, a2, a3, a4⟩ := h j h0 h1
  refine ⟨a1, fun z => ?_, fun z => a3 (by omega), fun z => ?_⟩
  · by_cases y : j = k
    · subst y
      rw [LDs_iff]
      exact a4 rfl
    · exact a2 (by omega)
  · subst z
    rw [a3 (by omega)]
    constructor
    · exact Or.inl
    · rintro (y | ⟨p', hp', _⟩)
      · exact y
      · omega
theorem I2_skip {C : Int → Int} {F t k p : Int} {B : BS} {W : Mm} (h : I2 C F B t k p W) (hno : ¬ (nx C F (B.2.1 k) p ≠ -1 ∧ B.1 (nx C F (B.2.1 k) p) = B.1 (B.2.1 k) + 1 ∧ LDs C F B t (nx C F (B.2.1 k) p))) : I2 C F B t k (p + 1) W := fun j h0 h1 => by
  obtain ⟨a1, a2, a3, a4⟩ := h j h0 h1
  refine ⟨a1, a2, a3, fun z => ?_⟩
  rw [a4 z]
  constructor
  · rintro (y | ⟨p', hp', h⟩)
    · exact Or.inl y
    · exact Or.inr ⟨p', by omega, h⟩
  · rintro (y | ⟨p', hp', h⟩)
    · exact Or.inl y
    · by_cases e : p' = p
      · rw [e] at h
        exact absurd h hno
      · exact Or.inr ⟨p', by omega, h⟩
theorem I2_put {C : Int → Int} {F s0 t k p x : Int} {B : BS} {W : Mm} (hI : BI s0 B) (h : I2 C F B t k p W) (hk : 0 ≤ k ∧ k < B.2.2.1) (hp : 0 ≤ p) (hx : x = 0 ∨ x = 1) (hxi : x = 1 ↔ (W 164 (B.2.1 k) = 1 ∨ (nx C F (B.2.1 k) p ≠ -1 ∧ B.1 (nx C F (B.2.1 k) p) = B.1 (B.2.1 k) + 1 ∧ LDs C F B t (nx C F (B.2.1 k) p)))) : I2 C F B t k (p + 1) (wr W 164 (B.2.1 k) x) := fun j h0 h1 => by
  obtain ⟨a1, a2, a3, a4⟩ := h j h0 h1
  rw [wr_row]
  by_cases e : j = k
  · subst e
    rw [up_self]
    refine ⟨hx, fun z => by omega, fun z => by omega, fun _ => ?_⟩
    rw [hxi, a4 rfl]
    constructor
    · rintro ((y | ⟨p', hp', h⟩) | y)
      · exact Or.inl y
      · exact Or.inr ⟨p', by omega, h⟩
      · exact Or.inr ⟨p, by omega, y⟩
    · rintro (y | ⟨p', hp', h⟩)
      · exact Or.inl (Or.inl y)
      · by_cases e : p' = p
        · rw [e] at h
          exact Or.inr h
        · exact Or.inl (Or.inr ⟨p', by omega, h⟩)
  · have hne : B.2.1 j ≠ B.2.1 k := fun z => e (hI.2.2.2.2.1 j k ⟨h0, h1⟩ hk z)
    rw [up_ne hne]
    exact ⟨a1, a2, a3, fun z => absurd z e⟩
theorem ior01 {x y : Int} (hx : x = 0 ∨ x = 1) (hy : y = 0 ∨ y = 1) : (op_ior x y = 0 ∨ op_ior x y = 1) ∧ (op_ior x y = 1 ↔ (x = 1 ∨ y = 1)) := by
  rcases hx with rfl | rfl <;> rcases hy with rfl | rfl <;> decide
theorem m_way {γ : Gh} {K : Sk} {V : Mm} {D : Int → Int} (h : MQy K V D) {t i : Int} (ht : R32 t) (hi : R32 i) : Call γ M_X12_way 42 0 0 [vR 156, vI t, vI i] K V (Qx (some (vI (wyR (bF (comF D) (fS D) (nowS D)) t i))) K (MS V (wyE (bF (comF D) (fS D) (nowS D)) t i (V 159)))) := by
  refine call_of (by decide +kernel) (by intro v hv; simp only [List.mem_cons, List.not_mem_nil, or_false] at hv; rcases hv with rfl | rfl | rfl <;> exact fun q => by cases q) (Nat.le_of_ble_eq_true rfl) ?_
  refine ev_lsE (ls' := [_, _, _, _, _, _, _, _]) rfl ?_
  obtain ⟨hL, hD, hct, hK, hF, hZ⟩ := h
  have hI := bD_I (V := V) ⟨hL, hD, hct, hK, hF, hZ⟩
  have hO := bF_O (F := fS D) (comF_wf hK) (nowS_st hct)
  have hC := comF_wf hK
  have hF6 := fS_r hF
  have hn5 := hI.n_le
  have hn1 := hI.1
  have hfr := hI.far_r t
  have hff := @m_findFar γ K
  have hs0 := nowS_st hct
  generalize hBe : (bF (comF D) (fS D) (nowS D)) = B at *
  unfold wyR wyE
  refine ev_iload_n (X := M_X12_way) (pc := 0) dX12_way_0 rfl ?_
  refine ev_staticR (X := M_X12_way) (Y := M_X12_isState) (pc := 1) dX12_way_1 mk_X12_isState kw_1284 kw_1285 (m_isState ht) rfl (by decide) rfl (Nat.le_of_ble_eq_true rfl) (Nat.zero_add _) (Nat.zero_add _) ?_
  refine ev_if_eq (X := M_X12_way) (pc := 4) (tgt := 11) dX12_way_4 (by decide) (by split <;> decide) (fun h4 => ?_) (fun h4 => ?_)
  · have hno : ¬ (isSt t ∧ 0 ≤ i) := fun z => by rw [if_pos z.1] at h4; exact absurd h4 (by decide)
    refine ev_aload_n (X := M_X12_way) (pc := 11) dX12_way_11 rfl ?_
    refine ev_iconst (X := M_X12_way) (pc := 12) dX12_way_12 ?_
    refine ev_virtR (X := M_X12_way) (Y := M_X12_finds) (pc := 13) (ci := 12) dX12_way_13 mk_X12_finds rfl kw_1092 kw_1094 kp_5 (lO_156 hL) (m_finds hL (by decide)) rfl (by decide) rfl (Nat.le_of_ble_eq_true rfl) (Nat.zero_add _) (Nat.zero_add _) ?_
    refine ev_iret (X := M_X12_way) (pc := 16) dX12_way_16 rfl ?_
    rw [if_neg hno, if_neg hno]
    exact ⟨rfl, rfl, (MS.rf hZ).er 1⟩
  · have hst : isSt t := Decidable.byContradiction fun z => h4 (by rw [if_neg z])
    have hlt := isSt_lt hst
    refine ev_iload_n (X := M_X12_way) (pc := 7) dX12_way_7 rfl ?_
    refine ev_if_ge (X := M_X12_way) (pc := 8) (tgt := 17) dX12_way_8 (by decide) (by omega) (fun h8 => ?_) (fun h8 => ?_)
    · have hcnd : isSt t ∧ 0 ≤ i := ⟨hst, by omega⟩
      rw [if_pos hcnd, if_pos hcnd]
      refine ev_aload_n (X := M_X12_way) (pc := 17) dX12_way_17 rfl ?_
      refine ev_virtY (X := M_X12_way) (Y := M_X12_findAll) (pc := 18) (ci := 12) dX12_way_18 mk_X12_findAll rfl kw_1197 kw_1199 kp_19 (lO_156 hL) (m_findAll hL hD hK hZ) rfl (by decide) rfl (Nat.le_of_ble_eq_true rfl) (Nat.zero_add _) (Nat.zero_add _) (fun W1 hW1 => ?_)
      have hD1 : W1 157 = D := by rw [hW1.1.row (by decide) (by decide) (by decide)]; exact hD
      refine ev_aload_n (X := M_X12_way) (pc := 21) dX12_way_21 rfl ?_
      refine ev_virtR (X := M_X12_way) (Y := M_X12_fencedNow) (pc := 22) (ci := 12) dX12_way_22 mk_X12_fencedNow rfl kw_1215 kw_1217 kp_22 (lO_156 hL) (m_fencedE hL hD1 hF) rfl (by decide) rfl (Nat.le_of_ble_eq_true rfl) (Nat.zero_add _) (Nat.zero_add _) ?_
      refine ev_istore_nL (X := M_X12_way) (pc := 25) (ls' := [_, _, _, _, _, _, _, _]) dX12_way_25 (by decide) rfl ?_
      refine ev_aload_n (X := M_X12_way) (pc := 26) dX12_way_26 rfl ?_
      refine ev_aload_n (X := M_X12_way) (pc := 27) dX12_way_27 rfl ?_
      refine ev_virtR (X := M_X12_way) (Y := M_X12_now) (pc := 28) (ci := 12) dX12_way_28 mk_X12_now rfl kw_1168 kw_1170 kp_18 (lO_156 hL) (m_nowE hL hD1) rfl (by decide) rfl (Nat.le_of_ble_eq_true rfl) (Nat.zero_add _) (Nat.zero_add _) ?_
      refine ev_iload_n (X := M_X12_way) (pc := 31) dX12_way_31 rfl ?_
      refine ev_virtX (X := M_X12_way) (Y := M_X12_findFar) (pc := 32) (ci := 12) dX12_way_32 mk_X12_findFar rfl kw_1288 kw_1290 kp_31 (lO_156 hL) (hff hL hC hW1.2 hs0 hF6) rfl (by decide) rfl (Nat.le_of_ble_eq_true rfl) (Nat.zero_add _) (Nat.zero_add _) (fun W2 hW2 => ?_)
      rw [hBe] at hW2
      rw [hBe]
      have hS := MS.far hW1.1 hW1.2 hW2.1
      have hD2 : W2 157 = D := by rw [hW2.1 157 (by decide) (by decide)]; exact hD1
      have hC2 : W2 161 = comF D := by rw [hW2.1 161 (by decide) (by decide)]; exact hW1.2
      obtain ⟨hMf, hMl⟩ := hW2.2
      have hM := hMf t hlt
      clear hW2
      refine ev_istoreL (X := M_X12_way) (pc := 35) (ls' := [_, _, _, _, _, _, _, _]) dX12_way_35 (by decide) rfl ?_
      refine ev_aload_n (X := M_X12_way) (pc := 37) dX12_way_37 rfl ?_
      refine ev_getRe (X := M_X12_way) (pc := 38) dX12_way_38 fl_X12_25_12 (lO_156 hL) rfl (lR_156_12 hL) ?_
      refine ev_iload_n (X := M_X12_way) (pc := 41) dX12_way_41 rfl ?_
      refine ev_ialoadE (X := M_X12_way) (pc := 42) dX12_way_42 (lS_162 hL) (by omega) (hM) ?_
      refine ev_ldc (X := M_X12_way) (pc := 43) (v := 1000000) dX12_way_43 kw_1292 (by decide) ?_
      refine ev_icmp_eq (X := M_X12_way) (pc := 45) (tgt := 58) dX12_way_45 (by decide) (by split <;> omega) (by decide) (fun h45 => ?_) (fun h45 => ?_)
      · have hn : B.1 t = -1 := Decidable.byContradiction fun z => by rw [if_neg z] at h45; omega
        have hlt2 : ¬ i < B.1 t := by omega
        refine ev_aload_n (X := M_X12_way) (pc := 58) dX12_way_58 rfl ?_
        refine ev_iconst (X := M_X12_way) (pc := 59) dX12_way_59 ?_
        refine ev_virtR (X := M_X12_way) (Y := M_X12_finds) (pc := 60) (ci := 12) dX12_way_60 mk_X12_finds rfl kw_1092 kw_1094 kp_5 (lO_156 hL) (m_finds hL (by decide)) rfl (by decide) rfl (Nat.le_of_ble_eq_true rfl) (Nat.zero_add _) (Nat.zero_add _) ?_
        refine ev_iret (X := M_X12_way) (pc := 63) dX12_way_63 rfl ?_
        rw [if_neg hlt2, if_neg hlt2]
        exact ⟨rfl, rfl, hS.er 2⟩
      · have hn : ¬ B.1 t = -1 := fun z => h45 (by rw [if_pos z])
        rw [if_neg hn] at hM
        refine ev_iload_n (X := M_X12_way) (pc := 48) dX12_way_48 rfl ?_
        refine ev_aload_n (X := M_X12_way) (pc := 49) dX12_way_49 rfl ?_
        refine ev_getRe (X := M_X12_way) (pc := 50) dX12_way_50 fl_X12_25_12 (lO_156 hL) rfl (lR_156_12 hL) ?_
        refine ev_iload_n (X := M_X12_way) (pc := 53) dX12_way_53 rfl ?_
        refine ev_ialoadE (X := M_X12_way) (pc := 54) dX12_way_54 (lS_162 hL) (by omega) (hM) ?_
        refine ev_icmp_lt (X := M_X12_way) (pc := 55) (tgt := 64) dX12_way_55 (by decide) (by omega) (by omega) (fun h55 => ?_) (fun h55 => ?_)
        · rw [if_pos h55, if_pos h55]
          -- the third loop: the way itself
          have ph3 : ∀ W, MS V (V 159) W → W 157 = D → W 161 = comF D → (∀ s, 0 ≤ s ∧ s < 2197 → W 162 s = if B.1 s = -1 then 1000000 else B.1 s) → I2 (comF D) (fS D) B t (-1) 0 W → Ev γ M_X12_way 42 0 0 218 [vR 156, vI t, vI i, vI (fS D), vI B.2.2.1, vU, vU, vU] [] K W (Qx (some (vI (wyP B t i))) K (MS V (V 159))) := by
            intro W wS wD wC wF wI
            have hLd : ∀ w, B.1 w ≠ -1 → (W 164 w = 0 ∨ W 164 w = 1) ∧ (W 164 w = 1 ↔ LDs (comF D) (fS D) B t w) := fun w hw => by
              obtain ⟨j, hj, hjw⟩ := hI.2.2.2.1 w hw
              obtain ⟨a1, a2, a3, a4⟩ := wI j hj.1 hj.2
              rw [hjw] at a1 a2
              exact ⟨a1, a2 (by omega)⟩
            clear wI hMf hMl
            have edge : ∀ s p, B.1 s ≠ -1 → 0 ≤ p ∧ p < 6 → nx (comF D) (fS D) s p ≠ -1 → B.1 (nx (comF D) (fS D) s p) ≠ -1 ∧ isSt (nx (comF D) (fS D) s p) := fun s p hs hp hx => by
              obtain ⟨j, hj, hjw⟩ := hI.2.2.2.1 s hs
              have := edge_by hI hO (by omega) hj hp (by rw [hjw]; exact hx)
              rw [hjw] at this
              exact ⟨this.1, far_isSt hI this.1⟩
            refine ev_aload_n (X := M_X12_way) (pc := 218) dX12_way_218 rfl ?_
            refine ev_virtR (X := M_X12_way) (Y := M_X12_now) (pc := 219) (ci := 12) dX12_way_219 mk_X12_now rfl kw_1168 kw_1170 kp_18 (lO_156 hL) (m_nowE hL wD) rfl (by decide) rfl (Nat.le_of_ble_eq_true rfl) (Nat.zero_add _) (Nat.zero_add _) ?_
            refine ev_istoreL (X := M_X12_way) (pc := 222) (ls' := [_, _, _, _, _, _, _, _]) dX12_way_222 (by decide) rfl ?_
            refine ev_iconst (X := M_X12_way) (pc := 224) dX12_way_224 ?_
            refine ev_istoreL (X := M_X12_way) (pc := 225) (ls' := [_, _, _, _, _, _, _, _]) dX12_way_225 (by decide) rfl ?_
            refine ev_iconst (X := M_X12_way) (pc := 227) dX12_way_227 ?_
            refine ev_istoreL (X := M_X12_way) (pc := 228) (ls' := [_, _, _, _, _, _, _, _]) dX12_way_228 (by decide) rfl ?_
            refine ev_weak (ev_while (σ := Int) (fun s => 0 ≤ s ∧ s ≤ i + 1) (fun s => (i + 1 - s).toNat) (fun s => [vR 156, vI t, vI i, vI (fS D), vI B.2.2.1, vI (anc B t (B.1 t - s).toNat), vI (if s = 0 then -1 else wyP B t (s - 1)), vI s]) (fun _ => K) (fun _ => W) ?_ 0 ⟨Int.le_refl 0, by omega⟩) ⟨rfl, rfl, rfl, rfl, rfl, congrArg vI (by rw [anc_end hI hO hn (by omega)]), rfl, rfl, trivial⟩
            intro s hs ih
            obtain ⟨hs0', hs1'⟩ := hs
            have fin7 : i < s → Qx (some (vI (wyP B t i))) K (MS V (V 159)) (some (vI (if s = 0 then -1 else wyP B t (s - 1)))) K W := fun z => by
              rw [if_neg (by omega), show s - 1 = i by omega]
              exact ⟨rfl, rfl, wS⟩
            have wy6 : 0 ≤ (if s = 0 then (-1 : Int) else wyP B t (s - 1)) + 1 := by
              split
              · decide
              · unfold wyP; omega
            generalize (if s = 0 then (-1 : Int) else wyP B t (s - 1)) = pr at *
            refine ev_iload (X := M_X12_way) (pc := 230) dX12_way_230 rfl ?_
            refine ev_iload_n (X := M_X12_way) (pc := 232) dX12_way_232 rfl ?_
            refine ev_icmp_gt (X := M_X12_way) (pc := 233) (tgt := 314) dX12_way_233 (by decide) (by omega) (by omega) (fun h233 => ?_) (fun h233 => ?_)
            · refine ev_iload (X := M_X12_way) (pc := 314) dX12_way_314 rfl ?_
              refine ev_iret (X := M_X12_way) (pc := 316) dX12_way_316 rfl ?_
              exact fin7 (by omega)
            · refine ev_iconst (X := M_X12_way) (pc := 236) dX12_way_236 ?_
              refine ev_istoreL (X := M_X12_way) (pc := 237) (ls' := [_, _, _, _, _, _, _, _]) dX12_way_237 (by decide) rfl ?_
              obtain ⟨j, hj⟩ : ∃ j : Nat, (j : Int) = B.1 t - 1 - s := ⟨(B.1 t - 1 - s).toNat, by omega⟩
              have hjt : (B.1 t - s).toNat = j + 1 := by omega
              rw [hjt]
              obtain ⟨⟨w1, w2⟩, w3⟩ := way_pair hI hO (by omega) hn (j := j) (by omega)
              have hfa := anc_far hI hO hn (j + 1) (by omega)
              have hfb := anc_far hI hO hn j (by omega)
              have hch := anc_ch hI hO hn j (by omega)
              have hwy : wyP B t s = B.2.2.2 (anc B t j) % 6 := by unfold wyP; rw [show (B.1 t - 1 - s).toNat = j by omega]
              have hP : 0 ≤ wyP B t s ∧ wyP B t s < 6 := by unfold wyP; omega
              rw [← hwy] at w1 w3
              have hcan : wyP B t s = wyP B t s := rfl
              generalize wyP B t s = Pz at *
              have hat : B.1 (anc B t (j + 1)) ≠ -1 := by omega
              have hsa := far_isSt hI hat
              have hsal := isSt_lt hsa
              have hFa := wF _ hsal
              rw [if_neg hat] at hFa
              have hnb : nx (comF D) (fS D) (anc B t (j + 1)) Pz ≠ -1 := by
                rw [w1]
                intro z
                have := (far_isSt hI (v := anc B t j) (by omega)).1
                omega
              refine ev_weak (ev_while (σ := Int) (fun p => 0 ≤ p ∧ p ≤ Pz) (fun p => (Pz - p).toNat) (fun p => [vR 156, vI t, vI i, vI (fS D), vI B.2.2.1, vI (anc B t (j + 1)), vI p, vI s]) (fun _ => K) (fun _ => W) ?_ 0 ⟨Int.le_refl 0, hP.1⟩) ⟨rfl, rfl, rfl, rfl, rfl, rfl, rfl, rfl, trivial⟩
              intro p hp ih2
              have hp6 : 0 ≤ p ∧ p < 6 := by omega
              refine ev_aload_n (X := M_X12_way) (pc := 239) dX12_way_239 rfl ?_
              refine ev_iload (X := M_X12_way) (pc := 240) dX12_way_240 rfl ?_
              refine ev_iload (X := M_X12_way) (pc := 242) dX12_way_242 rfl ?_
              refine ev_iload_n (X := M_X12_way) (pc := 244) dX12_way_244 rfl ?_
              refine ev_virtR (X := M_X12_way) (Y := M_X12_mayMeet) (pc := 245) (ci := 12) dX12_way_245 mk_X12_mayMeet rfl kw_1219 kw_1221 kp_23 (lO_156 hL) (m_mayMeet hL hC wC hp6 hsal hF6) rfl (by decide) rfl (Nat.le_of_ble_eq_true rfl) (Nat.zero_add _) (Nat.zero_add _) ?_
              refine ev_if_eq (X := M_X12_way) (pc := 248) (tgt := 292) dX12_way_248 (by decide) (by split <;> decide) (fun h248 => ?_) (fun h248 => ?_)
              · have hm : ¬ may (comF D) (fS D) (anc B t (j + 1)) p := fun z => by rw [if_pos z] at h248; exact absurd h248 (by decide)
                have hlp : p < Pz := by
                  have : p ≠ Pz := fun z => by
                    rw [z] at hm
                    apply hnb
                    unfold nx
                    rw [if_neg hm]
                  omega
                refine ev_iincL (X := M_X12_way) (pc := 292) (ls' := [_, _, _, _, _, _, _, _]) dX12_way_292 rfl (by decide) rfl ?_
                refine ev_goto (X := M_X12_way) (pc := 295) (tgt := 239) dX12_way_295 (by decide) ?_
                refine ev_weak (ih2 (p + 1) ⟨by omega, by omega⟩ (by show (Pz - (p + 1)).toNat < (Pz - p).toNat; omega)) ⟨rfl, rfl, rfl, rfl, rfl, rfl, rfl, rfl, trivial⟩
              · have hm : may (comF D) (fS D) (anc B t (j + 1)) p := Decidable.byContradiction fun z => h248 (by rw [if_neg z])
                have hnx : nx (comF D) (fS D) (anc B t (j + 1)) p = aft (comF D) (anc B t (j + 1)) p := by unfold nx; rw [if_pos hm]
                have hnn := (nx_ne (F := fS D) hC hp6 hsa).mpr hm
                obtain ⟨e1, e2⟩ := edge _ p hat hp6 hnn
                have hw3 := w3 p hp.1
                rw [hnx] at e1 e2 hw3
                have haf := isSt_lt e2
                have hLa := hLd _ e1
                have hFb := wF _ haf
                rw [if_neg e1] at hFb
                have hPa : p = Pz → aft (comF D) (anc B t (j + 1)) p = anc B t j := fun z => by rw [← hnx, z]; exact w1
                have hfrr := hI.far_r (aft (comF D) (anc B t (j + 1)) p)
                refine ev_aload_n (X := M_X12_way) (pc := 251) dX12_way_251 rfl ?_
                refine ev_getRe (X := M_X12_way) (pc := 252) dX12_way_252 fl_X12_31_12 (lO_156 hL) rfl (lR_156_14 hL) ?_
                refine ev_aload_n (X := M_X12_way) (pc := 255) dX12_way_255 rfl ?_
                refine ev_iload (X := M_X12_way) (pc := 256) dX12_way_256 rfl ?_
                refine ev_iload (X := M_X12_way) (pc := 258) dX12_way_258 rfl ?_
                refine ev_virtR (X := M_X12_way) (Y := M_X12_after) (pc := 260) (ci := 12) dX12_way_260 mk_X12_after rfl kw_1248 kw_1250 kp_26 (lO_156 hL) (m_after hL hC wC hp6) rfl (by decide) rfl (Nat.le_of_ble_eq_true rfl) (Nat.zero_add _) (Nat.zero_add _) ?_
                refine ev_zaload (X := M_X12_way) (pc := 263) dX12_way_263 (lS_164 hL) (by exact haf) ?_
                refine ev_if_eq (X := M_X12_way) (pc := 264) (tgt := 292) dX12_way_264 (by decide) (by omega) (fun h264 => ?_) (fun h264 => ?_)
                · have hlp : p < Pz := by
                    have : p ≠ Pz := fun z => by
                      have := hLa.2.mpr (by rw [hPa z]; exact ⟨j, hch⟩)
                      omega
                    omega
                  refine ev_iincL (X := M_X12_way) (pc := 292) (ls' := [_, _, _, _, _, _, _, _]) dX12_way_292 rfl (by decide) rfl ?_
                  refine ev_goto (X := M_X12_way) (pc := 295) (tgt := 239) dX12_way_295 (by decide) ?_
                  refine ev_weak (ih2 (p + 1) ⟨by omega, by omega⟩ (by show (Pz - (p + 1)).toNat < (Pz - p).toNat; omega)) ⟨rfl, rfl, rfl, rfl, rfl, rfl, rfl, rfl, trivial⟩
                · refine ev_aload_n (X := M_X12_way) (pc := 267) dX12_way_267 rfl ?_
                  refine ev_getRe (X := M_X12_way) (pc := 268) dX12_way_268 fl_X12_25_12 (lO_156 hL) rfl (lR_156_12 hL) ?_
                  refine ev_aload_n (X := M_X12_way) (pc := 271) dX12_way_271 rfl ?_
                  refine ev_iload (X := M_X12_way) (pc := 272) dX12_way_272 rfl ?_
                  refine ev_iload (X := M_X12_way) (pc := 274) dX12_way_274 rfl ?_
                  refine ev_virtR (X := M_X12_way) (Y := M_X12_after) (pc := 276) (ci := 12) dX12_way_276 mk_X12_after rfl kw_1248 kw_1250 kp_26 (lO_156 hL) (m_after hL hC wC hp6) rfl (by decide) rfl (Nat.le_of_ble_eq_true rfl) (Nat.zero_add _) (Nat.zero_add _) ?_
                  refine ev_ialoadE (X := M_X12_way) (pc := 279) dX12_way_279 (lS_162 hL) (by omega) (hFb) ?_
                  refine ev_aload_n (X := M_X12_way) (pc := 280) dX12_way_280 rfl ?_
                  refine ev_getRe (X := M_X12_way) (pc := 281) dX12_way_281 fl_X12_25_12 (lO_156 hL) rfl (lR_156_12 hL) ?_
                  refine ev_iload (X := M_X12_way) (pc := 284) dX12_way_284 rfl ?_
                  refine ev_ialoadE (X := M_X12_way) (pc := 286) dX12_way_286 (lS_162 hL) (by omega) (hFa) ?_
                  refine ev_iconst (X := M_X12_way) (pc := 287) dX12_way_287 ?_
                  refine ev_iadd (X := M_X12_way) (pc := 288) dX12_way_288 ?_
                  refine ev_icmp_eq (X := M_X12_way) (pc := 289) (tgt := 298) dX12_way_289 (by decide) (by omega) (by omega) (fun h289 => ?_) (fun h289 => ?_)
                  · have hpz : p = Pz := by
                      have : ¬ p < Pz := fun z => by
                        obtain ⟨m, hm'⟩ := hLa.2.mp (by omega)
                        have hmf := Ch_far m _ hm'
                        have hmj : m = j := by omega
                        rw [hmj] at hm'
                        exact hw3 z ⟨by rw [← hnx]; exact hnn, by omega, hm'⟩
                      omega
                    refine ev_aload_n (X := M_X12_way) (pc := 298) dX12_way_298 rfl ?_
                    refine ev_iload (X := M_X12_way) (pc := 299) dX12_way_299 rfl ?_
                    refine ev_iload (X := M_X12_way) (pc := 301) dX12_way_301 rfl ?_
                    refine ev_virtR (X := M_X12_way) (Y := M_X12_after) (pc := 303) (ci := 12) dX12_way_303 mk_X12_after rfl kw_1248 kw_1250 kp_26 (lO_156 hL) (m_after hL hC wC hp6) rfl (by decide) rfl (Nat.le_of_ble_eq_true rfl) (Nat.zero_add _) (Nat.zero_add _) ?_
                    refine ev_istoreL (X := M_X12_way) (pc := 306) (ls' := [_, _, _, _, _, _, _, _]) dX12_way_306 (by decide) rfl ?_
                    refine ev_iincL (X := M_X12_way) (pc := 308) (ls' := [_, _, _, _, _, _, _, _]) dX12_way_308 rfl (by decide) rfl ?_
                    refine ev_goto (X := M_X12_way) (pc := 311) (tgt := 230) dX12_way_311 (by decide) ?_
                    refine ev_weak (ih (s + 1) ⟨by omega, by omega⟩ (by show (i + 1 - (s + 1)).toNat < (i + 1 - s).toNat; omega)) ⟨rfl, rfl, rfl, rfl, rfl, congrArg vI ?_, congrArg vI ?_, rfl, trivial⟩
                    · rw [hPa hpz, show (B.1 t - (s + 1)).toNat = j by omega]
                    · rw [if_neg (by omega), hpz]
                      show Pz = wyP B t (s + 1 - 1)
                      rw [show s + 1 - 1 = s by omega]
                      unfold wyP
                      rw [show (B.1 t - 1 - s).toNat = j by omega]
                      exact hwy
                  · have hlp : p < Pz := by
                      have : p ≠ Pz := fun z => h289 (by rw [hPa z]; omega)
                      omega
                    refine ev_iincL (X := M_X12_way) (pc := 292) (ls' := [_, _, _, _, _, _, _, _]) dX12_way_292 rfl (by decide) rfl ?_
                    refine ev_goto (X := M_X12_way) (pc := 295) (tgt := 239) dX12_way_295 (by decide) ?_
                    refine ev_weak (ih2 (p + 1) ⟨by omega, by omega⟩ (by show (Pz - (p + 1)).toNat < (Pz - p).toNat; omega)) ⟨rfl, rfl, rfl, rfl, rfl, rfl, rfl, rfl, trivial⟩
          -- the second loop: what leads there
          have ph2 : ∀ W, fr1 164 W2 W → I2 (comF D) (fS D) B t (B.2.2.1 - 1) 0 W → Ev γ M_X12_way 42 0 0 105 [vR 156, vI t, vI i, vI (fS D), vI B.2.2.1, vI (B.2.2.1 - 1), vU, vU] [] K W (Qx (some (vI (wyP B t i))) K (MS V (V 159))) := by
            intro W w1 w2
            refine ev_weak (ev_while (σ := Int × Mm) (fun s => -1 ≤ s.1 ∧ s.1 < B.2.2.1 ∧ fr1 164 W2 s.2 ∧ I2 (comF D) (fS D) B t s.1 0 s.2) (fun s => (s.1 + 1).toNat) (fun s => [vR 156, vI t, vI i, vI (fS D), vI B.2.2.1, vI s.1, vU, vU]) (fun _ => K) (fun s => s.2) ?_ (B.2.2.1 - 1, W) ⟨by show -1 ≤ B.2.2.1 - 1; omega, by show B.2.2.1 - 1 < B.2.2.1; omega, w1, w2⟩) ⟨rfl, rfl, rfl, rfl, rfl, rfl, trivial⟩
            clear w1 w2 W
            rintro ⟨k, W⟩ ⟨k0, k1, w1, w2⟩ ih
            dsimp only at k0 k1 w1 w2 ih ⊢
            refine ev_iload (X := M_X12_way) (pc := 105) dX12_way_105 rfl ?_
            refine ev_if_lt (X := M_X12_way) (pc := 107) (tgt := 218) dX12_way_107 (by decide) (by omega) (fun h107 => ?_) (fun h107 => ?_)
            · have hk1 : k = -1 := by omega
              rw [hk1] at w2
              refine ev_weak (ph3 W (hS.wk (fun c z => w1 c (by omega))) (by rw [w1 157 (by decide)]; exact hD2) (by rw [w1 161 (by decide)]; exact hC2) (by rw [w1 162 (by decide)]; exact hMf) w2) ⟨rfl, rfl, rfl, rfl, rfl, trivial⟩
            · refine ev_iconst (X := M_X12_way) (pc := 110) dX12_way_110 ?_
              refine ev_istoreL (X := M_X12_way) (pc := 111) (ls' := [_, _, _, _, _, _, _, _]) dX12_way_111 (by decide) rfl ?_
              have hk : 0 ≤ k ∧ k < B.2.2.1 := by omega
              have hsk := hI.2.1 k hk
              have hskl := isSt_lt hsk
              have hfk := (hI.2.2.1 k hk).1
              have hfk9 := hI.far_r (B.2.1 k)
              refine ev_weak (ev_while (σ := Int × Mm) (fun s => 0 ≤ s.1 ∧ s.1 ≤ 6 ∧ fr1 164 W2 s.2 ∧ I2 (comF D) (fS D) B t k s.1 s.2) (fun s => (6 - s.1).toNat) (fun s => [vR 156, vI t, vI i, vI (fS D), vI B.2.2.1, vI k, vI s.1, vU]) (fun _ => K) (fun s => s.2) ?_ (0, W) ⟨Int.le_refl 0, by show (0 : Int) ≤ 6; decide, w1, w2⟩) ⟨rfl, rfl, rfl, rfl, rfl, rfl, rfl, trivial⟩
              clear w1 w2 W
              rintro ⟨p, W⟩ ⟨p0, p1, w1, w2⟩ ih2
              dsimp only at p0 p1 w1 w2 ih2 ⊢
              have wC : W 161 = comF D := by rw [w1 161 (by decide)]; exact hC2
              have wl : W 163 k = B.2.1 k := by rw [w1 163 (by decide)]; exact hMl k hk
              have wF : ∀ s, 0 ≤ s ∧ s < 2197 → W 162 s = if B.1 s = -1 then 1000000 else B.1 s := by rw [w1 162 (by decide)]; exact hMf
              have hFk := wF _ hskl
              rw [if_neg (by omega)] at hFk
              obtain ⟨x1, x2, x3, x4⟩ := w2 k hk.1 hk.2
              refine ev_iload (X := M_X12_way) (pc := 113) dX12_way_113 rfl ?_
              refine ev_bipush (X := M_X12_way) (pc := 115) dX12_way_115 (by decide) ?_
              refine ev_icmp_ge (X := M_X12_way) (pc := 117) (tgt := 212) dX12_way_117 (by decide) (by omega) (by omega) (fun h117 => ?_) (fun h117 => ?_)
              · refine ev_iincL (X := M_X12_way) (pc := 212) (ls' := [_, _, _, _, _, _, _, _]) dX12_way_212 rfl (by decide) rfl ?_
                refine ev_goto (X := M_X12_way) (pc := 215) (tgt := 105) dX12_way_215 (by decide) ?_
                have hp : p = 6 := by omega
                rw [hp] at w2
                exact ev_weak (ih (k - 1, W) ⟨by show -1 ≤ k - 1; omega, by show k - 1 < B.2.2.1; omega, w1, I2_down w2⟩ (by show (k - 1 + 1).toNat < (k + 1).toNat; omega)) ⟨rfl, rfl, rfl, rfl, rfl, rfl, trivial⟩
              · refine ev_aload_n (X := M_X12_way) (pc := 120) dX12_way_120 rfl ?_
                refine ev_aload_n (X := M_X12_way) (pc := 121) dX12_way_121 rfl ?_
                refine ev_getRe (X := M_X12_way) (pc := 122) dX12_way_122 fl_X12_28_12 (lO_156 hL) rfl (lR_156_13 hL) ?_
                refine ev_iload (X := M_X12_way) (pc := 125) dX12_way_125 rfl ?_
                refine ev_ialoadE (X := M_X12_way) (pc := 127) dX12_way_127 (lS_163 hL) (by omega) (wl) ?_
                refine ev_iload (X := M_X12_way) (pc := 128) dX12_way_128 rfl ?_
                refine ev_iload_n (X := M_X12_way) (pc := 130) dX12_way_130 rfl ?_
                refine ev_virtR (X := M_X12_way) (Y := M_X12_mayMeet) (pc := 131) (ci := 12) dX12_way_131 mk_X12_mayMeet rfl kw_1219 kw_1221 kp_23 (lO_156 hL) (m_mayMeet hL hC wC (by omega) hskl hF6) rfl (by decide) rfl (Nat.le_of_ble_eq_true rfl) (Nat.zero_add _) (Nat.zero_add _) ?_
                refine ev_if_eq (X := M_X12_way) (pc := 134) (tgt := 206) dX12_way_134 (by decide) (by split <;> decide) (fun h134 => ?_) (fun h134 => ?_)
                · have hm : ¬ may (comF D) (fS D) (B.2.1 k) p := fun z => by rw [if_pos z] at h134; exact absurd h134 (by decide)
                  have hfin := I2_skip w2 (fun z => z.1 (by unfold nx; rw [if_neg hm]))
                  have hfw := w1
                  refine ev_iincL (X := M_X12_way) (pc := 206) (ls' := [_, _, _, _, _, _, _, _]) dX12_way_206 rfl (by decide) rfl ?_
                  refine ev_goto (X := M_X12_way) (pc := 209) (tgt := 113) dX12_way_209 (by decide) ?_
                  first
                    | exact ev_weak (ih2 (p + 1, _) ⟨by omega, by omega, hfw, hfin⟩ (by show (6 - (p + 1)).toNat < (6 - p).toNat; omega)) ⟨rfl, rfl, rfl, rfl, rfl, rfl, rfl, trivial⟩
                    | exact ev_weak (ih2 (p + 1, _) ⟨by omega, by omega, hfw1, hfin⟩ (by show (6 - (p + 1)).toNat < (6 - p).toNat; omega)) ⟨rfl, rfl, rfl, rfl, rfl, rfl, rfl, trivial⟩
                · have hm : may (comF D) (fS D) (B.2.1 k) p := Decidable.byContradiction fun z => h134 (by rw [if_neg z])
                  have hnx : nx (comF D) (fS D) (B.2.1 k) p = aft (comF D) (B.2.1 k) p := by unfold nx; rw [if_pos hm]
                  have hnn := (nx_ne (F := fS D) hC (by omega) hsk).mpr hm
                  have hed := edge_by hI hO (by omega) hk (p := p) (by omega) hnn
                  have hput : ∀ y, (y = 0 ∨ y = 1) → (y = 1 ↔ (B.1 (aft (comF D) (B.2.1 k) p) = B.1 (B.2.1 k) + 1 ∧ W 164 (aft (comF D) (B.2.1 k) p) = 1)) → I2 (comF D) (fS D) B t k (p + 1) (wr W 164 (B.2.1 k) (op_ior (W 164 (B.2.1 k)) y)) := fun y hy hyi => by
                    obtain ⟨o1, o2⟩ := ior01 x1 hy
                    refine I2_put hI w2 hk p0 o1 ?_
                    rw [o2, hyi, hnx]
                    have hL2 : B.1 (aft (comF D) (B.2.1 k) p) = B.1 (B.2.1 k) + 1 → (W 164 (aft (comF D) (B.2.1 k) p) = 1 ↔ LDs (comF D) (fS D) B t (aft (comF D) (B.2.1 k) p)) := fun z => by
                      obtain ⟨j, hj, hjw⟩ := hI.2.2.2.1 (aft (comF D) (B.2.1 k) p) (by omega)
                      have hkj : k < j := Decidable.byContradiction fun q => by
                        have := far_mono hI hO k.toNat j k (by omega) hj.1 (by omega) hk.2
                        rw [hjw] at this
                        omega
                      have := (w2 j hj.1 hj.2).2.1 hkj
                      rw [hjw] at this
                      exact this
                    rw [hnx] at hnn
                    constructor
                    · rintro (q | q)
                      · exact Or.inl q
                      · exact Or.inr ⟨hnn, q.1, (hL2 q.1).mp q.2⟩
                    · rintro (q | q)
                      · exact Or.inl q
                      · exact Or.inr ⟨q.2.1, (hL2 q.2.1).mpr q.2.2⟩
                  rw [hnx] at hed
                  have hast := far_isSt hI hed.1
                  have hasl := isSt_lt hast
                  have hFa := wF _ hasl
                  rw [if_neg hed.1] at hFa
                  have hfa9 := hI.far_r (aft (comF D) (B.2.1 k) p)
                  have hWa : W 164 (aft (comF D) (B.2.1 k) p) = 0 ∨ W 164 (aft (comF D) (B.2.1 k) p) = 1 := by
                    obtain ⟨j, hj, hjw⟩ := hI.2.2.2.1 _ hed.1
                    have := (w2 j hj.1 hj.2).1
                    rw [hjw] at this
                    exact this
                  refine ev_aload_n (X := M_X12_way) (pc := 137) dX12_way_137 rfl ?_
                  refine ev_aload_n (X := M_X12_way) (pc := 138) dX12_way_138 rfl ?_
                  refine ev_getRe (X := M_X12_way) (pc := 139) dX12_way_139 fl_X12_28_12 (lO_156 hL) rfl (lR_156_13 hL) ?_
                  refine ev_iload (X := M_X12_way) (pc := 142) dX12_way_142 rfl ?_
                  refine ev_ialoadE (X := M_X12_way) (pc := 144) dX12_way_144 (lS_163 hL) (by omega) (wl) ?_
                  refine ev_iload (X := M_X12_way) (pc := 145) dX12_way_145 rfl ?_
                  refine ev_virtR (X := M_X12_way) (Y := M_X12_after) (pc := 147) (ci := 12) dX12_way_147 mk_X12_after rfl kw_1248 kw_1250 kp_26 (lO_156 hL) (m_after hL hC wC (by omega)) rfl (by decide) rfl (Nat.le_of_ble_eq_true rfl) (Nat.zero_add _) (Nat.zero_add _) ?_
                  refine ev_istoreL (X := M_X12_way) (pc := 150) (ls' := [_, _, _, _, _, _, _, _]) dX12_way_150 (by decide) rfl ?_
                  refine ev_aload_n (X := M_X12_way) (pc := 152) dX12_way_152 rfl ?_
                  refine ev_getRe (X := M_X12_way) (pc := 153) dX12_way_153 fl_X12_31_12 (lO_156 hL) rfl (lR_156_14 hL) ?_
                  refine ev_aload_n (X := M_X12_way) (pc := 156) dX12_way_156 rfl ?_
                  refine ev_getRe (X := M_X12_way) (pc := 157) dX12_way_157 fl_X12_28_12 (lO_156 hL) rfl (lR_156_13 hL) ?_
                  refine ev_iload (X := M_X12_way) (pc := 160) dX12_way_160 rfl ?_
                  refine ev_ialoadE (X := M_X12_way) (pc := 162) dX12_way_162 (lS_163 hL) (by omega) (wl) ?_
                  refine ev_dup2 (X := M_X12_way) (pc := 163) dX12_way_163 (fun _ q => by cases q) (fun _ q => by cases q) ?_
                  refine ev_zaload (X := M_X12_way) (pc := 164) dX12_way_164 (lS_164 hL) (by exact hskl) ?_
                  refine ev_aload_n (X := M_X12_way) (pc := 165) dX12_way_165 rfl ?_
                  refine ev_getRe (X := M_X12_way) (pc := 166) dX12_way_166 fl_X12_31_12 (lO_156 hL) rfl (lR_156_14 hL) ?_
                  refine ev_iload (X := M_X12_way) (pc := 169) dX12_way_169 rfl ?_
                  refine ev_zaload (X := M_X12_way) (pc := 171) dX12_way_171 (lS_164 hL) (by exact hasl) ?_
                  refine ev_if_eq (X := M_X12_way) (pc := 172) (tgt := 203) dX12_way_172 (by decide) (by omega) (fun h172 => ?_) (fun h172 => ?_)
                  · have hfin := hput 0 (Or.inl rfl) ⟨fun z => absurd z (by decide), fun z => by omega⟩
                    have hio := (ior01 x1 (y := 0) (Or.inl rfl)).1
                    refine ev_iconst (X := M_X12_way) (pc := 203) dX12_way_203 ?_
                    refine ev_ior (X := M_X12_way) (pc := 204) dX12_way_204 ?_
                    refine ev_zastore (X := M_X12_way) (pc := 205) dX12_way_205 (by decide) (lS_164 hL) (by exact hskl) (by exact hio) ?_
                    have hfw : fr1 164 W2 (wr W 164 (B.2.1 k) (op_ior (W 164 (B.2.1 k)) 0)) := fun c z => by rw [wr_off z]; exact w1 c z
                    have hfw1 : fr1 164 W2 (wr W 164 (B.2.1 k) (op_ior (W 164 (B.2.1 k)) 1)) := fun c z => by rw [wr_off z]; exact w1 c z
                    refine ev_iincL (X := M_X12_way) (pc := 206) (ls' := [_, _, _, _, _, _, _, _]) dX12_way_206 rfl (by decide) rfl ?_
                    refine ev_goto (X := M_X12_way) (pc := 209) (tgt := 113) dX12_way_209 (by decide) ?_
                    first
                      | exact ev_weak (ih2 (p + 1, _) ⟨by omega, by omega, hfw, hfin⟩ (by show (6 - (p + 1)).toNat < (6 - p).toNat; omega)) ⟨rfl, rfl, rfl, rfl, rfl, rfl, rfl, trivial⟩
                      | exact ev_weak (ih2 (p + 1, _) ⟨by omega, by omega, hfw1, hfin⟩ (by show (6 - (p + 1)).toNat < (6 - p).toNat; omega)) ⟨rfl, rfl, rfl, rfl, rfl, rfl, rfl, trivial⟩
                  · refine ev_aload_n (X := M_X12_way) (pc := 175) dX12_way_175 rfl ?_
                    refine ev_getRe (X := M_X12_way) (pc := 176) dX12_way_176 fl_X12_25_12 (lO_156 hL) rfl (lR_156_12 hL) ?_
                    refine ev_iload (X := M_X12_way) (pc := 179) dX12_way_179 rfl ?_
                    refine ev_ialoadE (X := M_X12_way) (pc := 181) dX12_way_181 (lS_162 hL) (by omega) (hFa) ?_
                    refine ev_aload_n (X := M_X12_way) (pc := 182) dX12_way_182 rfl ?_
                    refine ev_getRe (X := M_X12_way) (pc := 183) dX12_way_183 fl_X12_25_12 (lO_156 hL) rfl (lR_156_12 hL) ?_
                    refine ev_aload_n (X := M_X12_way) (pc := 186) dX12_way_186 rfl ?_
                    refine ev_getRe (X := M_X12_way) (pc := 187) dX12_way_187 fl_X12_28_12 (lO_156 hL) rfl (lR_156_13 hL) ?_
                    refine ev_iload (X := M_X12_way) (pc := 190) dX12_way_190 rfl ?_
                    refine ev_ialoadE (X := M_X12_way) (pc := 192) dX12_way_192 (lS_163 hL) (by omega) (wl) ?_
                    refine ev_ialoadE (X := M_X12_way) (pc := 193) dX12_way_193 (lS_162 hL) (by omega) (hFk) ?_
                    refine ev_iconst (X := M_X12_way) (pc := 194) dX12_way_194 ?_
                    refine ev_iadd (X := M_X12_way) (pc := 195) dX12_way_195 ?_
                    refine ev_icmp_ne (X := M_X12_way) (pc := 196) (tgt := 203) dX12_way_196 (by decide) (by omega) (by omega) (fun h196 => ?_) (fun h196 => ?_)
                    · have hfin := hput 0 (Or.inl rfl) ⟨fun z => absurd z (by decide), fun z => absurd z.1 h196⟩
                      have hio := (ior01 x1 (y := 0) (Or.inl rfl)).1
                      refine ev_iconst (X := M_X12_way) (pc := 203) dX12_way_203 ?_
                      refine ev_ior (X := M_X12_way) (pc := 204) dX12_way_204 ?_
                      refine ev_zastore (X := M_X12_way) (pc := 205) dX12_way_205 (by decide) (lS_164 hL) (by exact hskl) (by exact hio) ?_
                      have hfw : fr1 164 W2 (wr W 164 (B.2.1 k) (op_ior (W 164 (B.2.1 k)) 0)) := fun c z => by rw [wr_off z]; exact w1 c z
                      have hfw1 : fr1 164 W2 (wr W 164 (B.2.1 k) (op_ior (W 164 (B.2.1 k)) 1)) := fun c z => by rw [wr_off z]; exact w1 c z
                      refine ev_iincL (X := M_X12_way) (pc := 206) (ls' := [_, _, _, _, _, _, _, _]) dX12_way_206 rfl (by decide) rfl ?_
                      refine ev_goto (X := M_X12_way) (pc := 209) (tgt := 113) dX12_way_209 (by decide) ?_
                      first
                        | exact ev_weak (ih2 (p + 1, _) ⟨by omega, by omega, hfw, hfin⟩ (by show (6 - (p + 1)).toNat < (6 - p).toNat; omega)) ⟨rfl, rfl, rfl, rfl, rfl, rfl, rfl, trivial⟩
                        | exact ev_weak (ih2 (p + 1, _) ⟨by omega, by omega, hfw1, hfin⟩ (by show (6 - (p + 1)).toNat < (6 - p).toNat; omega)) ⟨rfl, rfl, rfl, rfl, rfl, rfl, rfl, trivial⟩
                    · have hfin := hput 1 (Or.inr rfl) ⟨fun _ => ⟨h196, by omega⟩, fun _ => rfl⟩
                      have hio := (ior01 x1 (y := 1) (Or.inr rfl)).1
                      refine ev_iconst (X := M_X12_way) (pc := 199) dX12_way_199 ?_
                      refine ev_goto (X := M_X12_way) (pc := 200) (tgt := 204) dX12_way_200 (by decide) ?_
                      refine ev_ior (X := M_X12_way) (pc := 204) dX12_way_204 ?_
                      refine ev_zastore (X := M_X12_way) (pc := 205) dX12_way_205 (by decide) (lS_164 hL) (by exact hskl) (by exact hio) ?_
                      have hfw : fr1 164 W2 (wr W 164 (B.2.1 k) (op_ior (W 164 (B.2.1 k)) 0)) := fun c z => by rw [wr_off z]; exact w1 c z
                      have hfw1 : fr1 164 W2 (wr W 164 (B.2.1 k) (op_ior (W 164 (B.2.1 k)) 1)) := fun c z => by rw [wr_off z]; exact w1 c z
                      refine ev_iincL (X := M_X12_way) (pc := 206) (ls' := [_, _, _, _, _, _, _, _]) dX12_way_206 rfl (by decide) rfl ?_
                      refine ev_goto (X := M_X12_way) (pc := 209) (tgt := 113) dX12_way_209 (by decide) ?_
                      first
                        | exact ev_weak (ih2 (p + 1, _) ⟨by omega, by omega, hfw, hfin⟩ (by show (6 - (p + 1)).toNat < (6 - p).toNat; omega)) ⟨rfl, rfl, rfl, rfl, rfl, rfl, rfl, trivial⟩
                        | exact ev_weak (ih2 (p + 1, _) ⟨by omega, by omega, hfw1, hfin⟩ (by show (6 - (p + 1)).toNat < (6 - p).toNat; omega)) ⟨rfl, rfl, rfl, rfl, rfl, rfl, rfl, trivial⟩
          refine ev_iconst (X := M_X12_way) (pc := 64) dX12_way_64 ?_
          refine ev_istoreL (X := M_X12_way) (pc := 65) (ls' := [_, _, _, _, _, _, _, _]) dX12_way_65 (by decide) rfl ?_
          refine ev_weak (ev_while (σ := Int × Mm) (fun s => 0 ≤ s.1 ∧ s.1 ≤ 2197 ∧ fr1 164 W2 s.2 ∧ ∀ q, 0 ≤ q → q < s.1 → s.2 164 q = if q = t then 1 else 0) (fun s => (2197 - s.1).toNat) (fun s => [vR 156, vI t, vI i, vI (fS D), vI B.2.2.1, vI s.1, vU, vU]) (fun _ => K) (fun s => s.2) ?_ (0, W2) ⟨Int.le_refl 0, by show (0 : Int) ≤ 2197; decide, fun _ _ => rfl, fun q q0 q1 => by change q < 0 at q1; omega⟩) ⟨rfl, rfl, rfl, rfl, rfl, rfl, trivial⟩
          rintro ⟨q, W⟩ ⟨q0, q1, w1, w2⟩ ih
          dsimp only at q0 q1 w1 w2 ih ⊢
          have hnext : ∀ x, x = (if q = t then (1 : Int) else 0) → q < 2197 → Ev γ M_X12_way 42 0 0 67 [vR 156, vI t, vI i, vI (fS D), vI B.2.2.1, vI (q + 1), vU, vU] [] K (wr W 164 q x) (Qx (some (vI (wyP B t i))) K (MS V (V 159))) := fun x hx hq => by
            refine ih (q + 1, wr W 164 q x) ⟨by omega, by omega, fun c z => by show wr W 164 q x c = W2 c; rw [wr_off z]; exact w1 c z, fun r r0 r1 => ?_⟩ (by show (2197 - (q + 1)).toNat < (2197 - q).toNat; omega)
            show wr W 164 q x 164 r = _
            rw [wr_row]
            change r < q + 1 at r1
            by_cases e : r = q
            · rw [e, up_self, hx]
            · rw [up_ne e]
              exact w2 r r0 (by omega)
          refine ev_iload (X := M_X12_way) (pc := 67) dX12_way_67 rfl ?_
          refine ev_sipush (X := M_X12_way) (pc := 69) dX12_way_69 (by decide) ?_
          refine ev_icmp_ge (X := M_X12_way) (pc := 72) (tgt := 99) dX12_way_72 (by decide) (by omega) (by omega) (fun h72 => ?_) (fun h72 => ?_)
          · refine ev_iload (X := M_X12_way) (pc := 99) dX12_way_99 rfl ?_
            refine ev_iconst (X := M_X12_way) (pc := 101) dX12_way_101 ?_
            refine ev_isub (X := M_X12_way) (pc := 102) dX12_way_102 ?_
            refine ev_istoreL (X := M_X12_way) (pc := 103) (ls' := [_, _, _, _, _, _, _, _]) dX12_way_103 (by decide) rfl ?_
            refine ev_weak (ph2 W w1 (fun j j0 j1 => ?_)) ⟨rfl, rfl, rfl, rfl, rfl, rfl, trivial⟩
            have hjs := isSt_lt (hI.2.1 j ⟨j0, j1⟩)
            have e := w2 (B.2.1 j) hjs.1 (by omega)
            refine ⟨?_, fun z => by omega, fun _ => ?_, fun z => ?_⟩
            · rw [e]; split <;> omega
            · rw [e]
              constructor
              · intro z
                exact Decidable.byContradiction fun y => by rw [if_neg y] at z; omega
              · intro z
                rw [if_pos z]
            · rw [← z, e]
              constructor
              · intro z
                exact Or.inl (Decidable.byContradiction fun y => by rw [if_neg y] at z; omega)
              · rintro (z | ⟨p', hp', _⟩)
                · rw [if_pos z]
                · omega
          · refine ev_aload_n (X := M_X12_way) (pc := 75) dX12_way_75 rfl ?_
            refine ev_getRe (X := M_X12_way) (pc := 76) dX12_way_76 fl_X12_31_12 (lO_156 hL) rfl (lR_156_14 hL) ?_
            refine ev_iload (X := M_X12_way) (pc := 79) dX12_way_79 rfl ?_
            refine ev_iload (X := M_X12_way) (pc := 81) dX12_way_81 rfl ?_
            refine ev_iload_n (X := M_X12_way) (pc := 83) dX12_way_83 rfl ?_
            refine ev_icmp_ne (X := M_X12_way) (pc := 84) (tgt := 91) dX12_way_84 (by decide) (by omega) (by omega) (fun h84 => ?_) (fun h84 => ?_)
            · refine ev_iconst (X := M_X12_way) (pc := 91) dX12_way_91 ?_
              refine ev_zastore (X := M_X12_way) (pc := 92) dX12_way_92 (by decide) (lS_164 hL) (by omega) (by decide) ?_
              refine ev_iincL (X := M_X12_way) (pc := 93) (ls' := [_, _, _, _, _, _, _, _]) dX12_way_93 rfl (by decide) rfl ?_
              refine ev_goto (X := M_X12_way) (pc := 96) (tgt := 67) dX12_way_96 (by decide) ?_
              first
                | exact ev_weak (hnext 1 (by rw [if_pos (by omega)]) (by omega)) ⟨rfl, rfl, rfl, rfl, rfl, rfl, trivial⟩
                | exact ev_weak (hnext 0 (by rw [if_neg (by omega)]) (by omega)) ⟨rfl, rfl, rfl, rfl, rfl, rfl, trivial⟩
            · refine ev_iconst (X := M_X12_way) (pc := 87) dX12_way_87 ?_
              refine ev_goto (X := M_X12_way) (pc := 88) (tgt := 92) dX12_way_88 (by decide) ?_
              refine ev_zastore (X := M_X12_way) (pc := 92) dX12_way_92 (by decide) (lS_164 hL) (by omega) (by decide) ?_
              refine ev_iincL (X := M_X12_way) (pc := 93) (ls' := [_, _, _, _, _, _, _, _]) dX12_way_93 rfl (by decide) rfl ?_
              refine ev_goto (X := M_X12_way) (pc := 96) (tgt := 67) dX12_way_96 (by decide) ?_
              first
                | exact ev_weak (hnext 1 (by rw [if_pos (by omega)]) (by omega)) ⟨rfl, rfl, rfl, rfl, rfl, rfl, trivial⟩
                | exact ev_weak (hnext 0 (by rw [if_neg (by omega)]) (by omega)) ⟨rfl, rfl, rfl, rfl, rfl, rfl, trivial⟩
        · have hlt2 : ¬ i < B.1 t := by omega
          refine ev_aload_n (X := M_X12_way) (pc := 58) dX12_way_58 rfl ?_
          refine ev_iconst (X := M_X12_way) (pc := 59) dX12_way_59 ?_
          refine ev_virtR (X := M_X12_way) (Y := M_X12_finds) (pc := 60) (ci := 12) dX12_way_60 mk_X12_finds rfl kw_1092 kw_1094 kp_5 (lO_156 hL) (m_finds hL (by decide)) rfl (by decide) rfl (Nat.le_of_ble_eq_true rfl) (Nat.zero_add _) (Nat.zero_add _) ?_
          refine ev_iret (X := M_X12_way) (pc := 63) dX12_way_63 rfl ?_
          rw [if_neg hlt2, if_neg hlt2]
          exact ⟨rfl, rfl, hS.er 2⟩
    · have hno : ¬ (isSt t ∧ 0 ≤ i) := fun z => by omega
      refine ev_aload_n (X := M_X12_way) (pc := 11) dX12_way_11 rfl ?_
      refine ev_iconst (X := M_X12_way) (pc := 12) dX12_way_12 ?_
      refine ev_virtR (X := M_X12_way) (Y := M_X12_finds) (pc := 13) (ci := 12) dX12_way_13 mk_X12_finds rfl kw_1092 kw_1094 kp_5 (lO_156 hL) (m_finds hL (by decide)) rfl (by decide) rfl (Nat.le_of_ble_eq_true rfl) (Nat.zero_add _) (Nat.zero_add _) ?_
      refine ev_iret (X := M_X12_way) (pc := 16) dX12_way_16 rfl ?_
      rw [if_neg hno, if_neg hno]
      exact ⟨rfl, rfl, (MS.rf hZ).er 1⟩
