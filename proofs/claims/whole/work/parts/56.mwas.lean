theorem Rk_ex : ∀ n : Nat, ∃ q, Rk n q
  | 0 => ⟨0, Rk_0⟩
  | n + 1 => by
    obtain ⟨q, h⟩ := Rk_ex n
    by_cases z : isSt (n : Int)
    · exact ⟨q + 1, (Rk_st z h).2.2.2⟩
    · exact ⟨q, Rk_no z h⟩
theorem Rk_uq {s q q' : Int} (h : Rk s q) (h' : Rk s q') : q = q' := by
  have a := h.1
  have b := h'.1
  rcases (show q < q' ∨ q = q' ∨ q' < q by omega) with z | z | z
  · have := h'.2.1 q a.1 z
    have := h.2.2 q (Int.le_refl _) (by omega)
    omega
  · exact z
  · have := h.2.1 q' b.1 z
    have := h'.2.2 q' (Int.le_refl _) (by omega)
    omega
theorem Rk_dn {s q' : Int} (hs : 0 ≤ s) (h : Rk (s + 1) q') : ∃ q, Rk s q ∧ ((isSt s ∧ q' = q + 1 ∧ stF q = s ∧ 0 ≤ q ∧ q < 455) ∨ (¬ isSt s ∧ q' = q)) := by
  obtain ⟨q, hq⟩ := Rk_ex s.toNat
  rw [show ((s.toNat : Nat) : Int) = s by omega] at hq
  refine ⟨q, hq, ?_⟩
  by_cases z : isSt s
  · obtain ⟨_, e2, e3, e4⟩ := Rk_st z hq
    exact Or.inl ⟨z, Rk_uq h e4, e2, e3.1, e3.2⟩
  · exact Or.inr ⟨z, Rk_uq h (Rk_no z hq)⟩
theorem Rk_2197 : Rk 2197 455 := by
  obtain ⟨q, hq⟩ := Rk_ex 2197
  have := Rk_end hq
  rw [this] at hq
  exact hq
theorem m_was {γ : Gh} {K : Sk} {V : Mm} {D : Int → Int} (h : MQy K V D) {n w : Int} (hn : R32 n) (hw : R32 w) : Call γ M_X12_was 42 0 0 [vR 156, vI n, vI w] K V (Qx (some (vI (waR (comF D) (fS D) (nowS D) n w))) K (MS V (waE (comF D) (fS D) (nowS D) n w (V 159)))) := by
  refine call_of (by decide +kernel) (by intro v hv; simp only [List.mem_cons, List.not_mem_nil, or_false] at hv; rcases hv with rfl | rfl | rfl <;> exact fun q => by cases q) (Nat.le_of_ble_eq_true rfl) ?_
  refine ev_lsE (ls' := [_, _, _, _, _, _, _]) rfl ?_
  obtain ⟨hL, hD, hct, hK, hF, hZ⟩ := h
  have hC := comF_wf hK
  have hF6 := fS_r hF
  have hs0 := nowS_st hct
  have hs0l := isSt_lt hs0
  unfold waR waE
  refine ev_iload_n (X := M_X12_was) (pc := 0) dX12_was_0 rfl ?_
  refine ev_i2l (X := M_X12_was) (pc := 1) dX12_was_1 (by omega) ?_
  refine ev_lconst (X := M_X12_was) (pc := 2) (v := 0) dX12_was_2 (by decide) ?_
  refine ev_ldc2 (X := M_X12_was) (pc := 3) (v := 6) dX12_was_3 kw_1234 (by decide) ?_
  refine ev_staticR (X := M_X12_was) (Y := M_X12_in) (pc := 6) dX12_was_6 mk_X12_in kw_1089 kw_1090 (m_in (by omega) (by decide) (by decide)) rfl (by decide) rfl (Nat.le_of_ble_eq_true rfl) (Nat.zero_add _) (Nat.zero_add _) ?_
  refine ev_if_eq (X := M_X12_was) (pc := 9) (tgt := 22) dX12_was_9 (by decide) (by split <;> decide) (fun h9 => ?_) (fun h9 => ?_)
  · have hno : ¬ ((0 ≤ n ∧ n ≤ 6) ∧ 0 ≤ w ∧ w ≤ 1) := fun z => by rw [if_pos z.1] at h9; exact absurd h9 (by decide)
    refine ev_aload_n (X := M_X12_was) (pc := 22) dX12_was_22 rfl ?_
    refine ev_iconst (X := M_X12_was) (pc := 23) dX12_was_23 ?_
    refine ev_virtR (X := M_X12_was) (Y := M_X12_finds) (pc := 24) (ci := 12) dX12_was_24 mk_X12_finds rfl kw_1092 kw_1094 kp_5 (lO_156 hL) (m_finds hL (by decide)) rfl (by decide) rfl (Nat.le_of_ble_eq_true rfl) (Nat.zero_add _) (Nat.zero_add _) ?_
    refine ev_iret (X := M_X12_was) (pc := 27) dX12_was_27 rfl ?_
    rw [if_neg hno, if_neg hno]
    exact ⟨rfl, rfl, (MS.rf hZ).er 1⟩
  · have hn6 : 0 ≤ n ∧ n ≤ 6 := Decidable.byContradiction fun z => h9 (by rw [if_neg z])
    refine ev_iload_n (X := M_X12_was) (pc := 12) dX12_was_12 rfl ?_
    refine ev_i2l (X := M_X12_was) (pc := 13) dX12_was_13 (by omega) ?_
    refine ev_lconst (X := M_X12_was) (pc := 14) (v := 0) dX12_was_14 (by decide) ?_
    refine ev_lconst (X := M_X12_was) (pc := 15) (v := 1) dX12_was_15 (by decide) ?_
    refine ev_staticR (X := M_X12_was) (Y := M_X12_in) (pc := 16) dX12_was_16 mk_X12_in kw_1089 kw_1090 (m_in (by omega) (by decide) (by decide)) rfl (by decide) rfl (Nat.le_of_ble_eq_true rfl) (Nat.zero_add _) (Nat.zero_add _) ?_
    refine ev_if_ne (X := M_X12_was) (pc := 19) (tgt := 28) dX12_was_19 (by decide) (by split <;> decide) (fun h19 => ?_) (fun h19 => ?_)
    · have hye : (0 ≤ n ∧ n ≤ 6) ∧ 0 ≤ w ∧ w ≤ 1 := ⟨hn6, Decidable.byContradiction fun z => h19 (by rw [if_neg z])⟩
      rw [if_pos hye, if_pos hye]
      refine ev_aload_n (X := M_X12_was) (pc := 28) dX12_was_28 rfl ?_
      refine ev_virtY (X := M_X12_was) (Y := M_X12_findAll) (pc := 29) (ci := 12) dX12_was_29 mk_X12_findAll rfl kw_1197 kw_1199 kp_19 (lO_156 hL) (m_findAll hL hD hK hZ) rfl (by decide) rfl (Nat.le_of_ble_eq_true rfl) (Nat.zero_add _) (Nat.zero_add _) (fun W1 hW1 => ?_)
      have hD1 : W1 157 = D := by rw [hW1.1.row (by decide) (by decide) (by decide)]; exact hD
      have hS1 := MS.com hW1.1 hW1.2
      have hC1 := hW1.2
      clear hW1
      generalize comF D = C at *
      refine ev_aload_n (X := M_X12_was) (pc := 32) dX12_was_32 rfl ?_
      refine ev_virtR (X := M_X12_was) (Y := M_X12_fencedNow) (pc := 33) (ci := 12) dX12_was_33 mk_X12_fencedNow rfl kw_1215 kw_1217 kp_22 (lO_156 hL) (m_fencedE hL hD1 hF) rfl (by decide) rfl (Nat.le_of_ble_eq_true rfl) (Nat.zero_add _) (Nat.zero_add _) ?_
      refine ev_istore_nL (X := M_X12_was) (pc := 36) (ls' := [_, _, _, _, _, _, _]) dX12_was_36 (by decide) rfl ?_
      refine ev_iconst (X := M_X12_was) (pc := 37) dX12_was_37 ?_
      refine ev_istoreL (X := M_X12_was) (pc := 38) (ls' := [_, _, _, _, _, _, _]) dX12_was_38 (by decide) rfl ?_
      generalize fS D = F at *
      have hQ : ∃ Q, Q = (Qx (some (vI (if w = 0 then Sm (wbK C F (nowS D) n.toNat) 455 else oNr (lD (wbK C F (nowS D) n.toNat) 455)))) K (MS V (if w = 0 then V 159 else if lD (wbK C F (nowS D) n.toNat) 455 = -1 then up (V 159) 2 (V 159 2 + 1) else V 159))) := ⟨_, rfl⟩
      obtain ⟨Q, hQ⟩ := hQ
      rw [← hQ]
      have ph5 : ∀ W, fr2 167 168 W1 W → (∀ t, 0 ≤ t ∧ t < 2197 → W 167 t = wbK C F (nowS D) n.toNat t) → Ev γ M_X12_was 42 0 0 213 [vR 156, vI n, vI w, vI F, vU, vU, vU] [] K W Q := by
        intro W w1 w2
        rw [hQ]
        have h01 := wbK_01 (C := C) (F := F) (s0 := nowS D) n.toNat
        have hoff := fun (t : Int) (z : ¬ isSt t) => wbK_off (C := C) (F := F) (t := t) hs0 z n.toNat
        generalize wbK C F (nowS D) n.toNat = U at *
        obtain ⟨T, hT⟩ : ∃ T, T = Sm U 455 := ⟨_, rfl⟩
        obtain ⟨lf, hlf⟩ : ∃ lf, lf = lD U 455 := ⟨_, rfl⟩
        rw [← hT, ← hlf]
        have hMS := hS1.wk (fun c z => w1 c (by omega) (by omega))
        refine ev_iconst (X := M_X12_was) (pc := 213) dX12_was_213 ?_
        refine ev_istoreL (X := M_X12_was) (pc := 214) (ls' := [_, _, _, _, _, _, _]) dX12_was_214 (by decide) rfl ?_
        refine ev_iconst (X := M_X12_was) (pc := 216) dX12_was_216 ?_
        refine ev_istoreL (X := M_X12_was) (pc := 217) (ls' := [_, _, _, _, _, _, _]) dX12_was_217 (by decide) rfl ?_
        refine ev_sipush (X := M_X12_was) (pc := 219) dX12_was_219 (by decide) ?_
        refine ev_istoreL (X := M_X12_was) (pc := 222) (ls' := [_, _, _, _, _, _, _]) dX12_was_222 (by decide) rfl ?_
        refine ev_weak (ev_while (σ := Int × Int) (fun s => -1 ≤ s.1 ∧ s.1 ≤ 2196 ∧ Rk (s.1 + 1) s.2) (fun s => (s.1 + 1).toNat) (fun s => [vR 156, vI n, vI w, vI F, vI (T - Sm U s.2.toNat), vI (lD U (455 - s.2).toNat), vI s.1]) (fun _ => K) (fun _ => W) ?_ (2196, 455) ⟨by show (-1 : Int) ≤ 2196; decide, Int.le_refl _, Rk_2197⟩) ⟨rfl, rfl, rfl, rfl, by show vI 0 = vI (T - Sm U 455); rw [hT, Int.sub_self], rfl, rfl, trivial⟩
        rintro ⟨s, q⟩ ⟨s0, s1, rk⟩ ih
        dsimp only at s0 s1 rk ih ⊢
        have hq0 := rk.1
        have hlr := lD_r (f := U) (455 - q).toNat (by omega)
        have hlst : (0 ≤ lD U (455 - q).toNat ∧ lD U (455 - q).toNat < 2197) ∨ lD U (455 - q).toNat = -1 := by
          rcases hlr with z | z
          · exact Or.inr z
          · exact Or.inl (isSt_lt z)
        refine ev_iload (X := M_X12_was) (pc := 224) dX12_was_224 rfl ?_
        refine ev_if_lt (X := M_X12_was) (pc := 226) (tgt := 274) dX12_was_226 (by decide) (by omega) (fun h226 => ?_) (fun h226 => ?_)
        · have hs : s = -1 := by omega
          rw [hs] at rk
          have hq : q = 0 := Rk_uq rk Rk_0
          subst hq
          have hl0 : lD U ((455 : Int) - 0).toNat = lf := by rw [show ((455 : Int) - 0).toNat = 455 by decide, hlf]
          rw [hl0] at hlr hlst ⊢
          have hS0 : Sm U (0 : Int).toNat = 0 := rfl
          rw [hS0, Int.sub_zero]
          refine ev_iload_n (X := M_X12_was) (pc := 274) dX12_was_274 rfl ?_
          refine ev_if_ne (X := M_X12_was) (pc := 275) (tgt := 283) dX12_was_275 (by decide) (by omega) (fun h275 => ?_) (fun h275 => ?_)
          · rw [if_neg h275, if_neg h275]
            refine ev_iload (X := M_X12_was) (pc := 283) dX12_was_283 rfl ?_
            refine ev_if_ge (X := M_X12_was) (pc := 285) (tgt := 296) dX12_was_285 (by decide) (by omega) (fun h285 => ?_) (fun h285 => ?_)
            · have hz : ¬ lf = -1 := by omega
              refine ev_iload (X := M_X12_was) (pc := 296) dX12_was_296 rfl ?_
              refine ev_iret (X := M_X12_was) (pc := 298) dX12_was_298 rfl ?_
              first
                | exact ⟨rfl, rfl, hMS⟩
                | (unfold oNr
                   rw [if_pos hz, if_pos hz]
                   exact ⟨rfl, rfl, hMS.er 2⟩)
                | (unfold oNr
                   rw [if_neg hz, if_neg hz]
                   exact ⟨rfl, rfl, hMS⟩)
            · have hz : lf = -1 := by omega
              refine ev_aload_n (X := M_X12_was) (pc := 288) dX12_was_288 rfl ?_
              refine ev_iconst (X := M_X12_was) (pc := 289) dX12_was_289 ?_
              refine ev_virtR (X := M_X12_was) (Y := M_X12_finds) (pc := 290) (ci := 12) dX12_was_290 mk_X12_finds rfl kw_1092 kw_1094 kp_5 (lO_156 hL) (m_finds hL (by decide)) rfl (by decide) rfl (Nat.le_of_ble_eq_true rfl) (Nat.zero_add _) (Nat.zero_add _) ?_
              refine ev_goto (X := M_X12_was) (pc := 293) (tgt := 298) dX12_was_293 (by decide) ?_
              refine ev_iret (X := M_X12_was) (pc := 298) dX12_was_298 rfl ?_
              first
                | exact ⟨rfl, rfl, hMS⟩
                | (unfold oNr
                   rw [if_pos hz, if_pos hz]
                   exact ⟨rfl, rfl, hMS.er 2⟩)
                | (unfold oNr
                   rw [if_neg hz, if_neg hz]
                   exact ⟨rfl, rfl, hMS⟩)
          · rw [if_pos h275, if_pos h275]
            refine ev_iload (X := M_X12_was) (pc := 278) dX12_was_278 rfl ?_
            refine ev_goto (X := M_X12_was) (pc := 280) (tgt := 298) dX12_was_280 (by decide) ?_
            refine ev_iret (X := M_X12_was) (pc := 298) dX12_was_298 rfl ?_
            first
              | exact ⟨rfl, rfl, hMS⟩
              | (unfold oNr
                 rw [if_pos hz, if_pos hz]
                 exact ⟨rfl, rfl, hMS.er 2⟩)
              | (unfold oNr
                 rw [if_neg hz, if_neg hz]
                 exact ⟨rfl, rfl, hMS⟩)
        · obtain ⟨q1, r1, r2⟩ := Rk_dn (s := s) (by omega) rk
          have h01s := h01 s
          have hr10 := r1.1
          have nxt : ∀ a b, a = T - Sm U q1.toNat → b = lD U (455 - q1).toNat → Ev γ M_X12_was 42 0 0 224 [vR 156, vI n, vI w, vI F, vI a, vI b, vI (s + -1)] [] K W (Qx (some (vI (if w = 0 then T else oNr lf))) K (MS V (if w = 0 then V 159 else if lf = -1 then up (V 159) 2 (V 159 2 + 1) else V 159))) := fun a b ha hb => by
            rw [ha, hb]
            refine ih (s + -1, q1) ⟨by show -1 ≤ s + -1; omega, by show s + -1 ≤ 2196; omega, by show Rk (s + -1 + 1) q1; rw [show s + -1 + 1 = s by omega]; exact r1⟩ (by show (s + -1 + 1).toNat < (s + 1).toNat; omega)
          have hyes : U s = 1 → T - Sm U q.toNat + 1 = T - Sm U q1.toNat ∧ s = lD U (455 - q1).toNat := fun z => by
            rcases r2 with ⟨y1, y2, y3, y4⟩ | ⟨y1, y2⟩
            · have e : Sm U q.toNat = Sm U q1.toNat + U s := by
                rw [y2, show (q1 + 1).toNat = q1.toNat + 1 by omega]
                show Sm U q1.toNat + U (stF (q1.toNat : Int)) = _
                rw [show ((q1.toNat : Nat) : Int) = q1 by omega, y3]
              rw [lD_s y4, y3, if_pos z]
              exact ⟨by omega, rfl⟩
            · have := hoff s y1
              omega
          have hnot : U s = 0 → T - Sm U q.toNat + 0 = T - Sm U q1.toNat ∧ lD U (455 - q).toNat = lD U (455 - q1).toNat := fun z => by
            rcases r2 with ⟨y1, y2, y3, y4⟩ | ⟨y1, y2⟩
            · have e : Sm U q.toNat = Sm U q1.toNat + U s := by
                rw [y2, show (q1 + 1).toNat = q1.toNat + 1 by omega]
                show Sm U q1.toNat + U (stF (q1.toNat : Int)) = _
                rw [show ((q1.toNat : Nat) : Int) = q1 by omega, y3]
              rw [lD_s y4, y3, if_neg (by omega)]
              exact ⟨by omega, by rw [y2]⟩
            · rw [y2]
              exact ⟨by omega, rfl⟩
          refine ev_iload (X := M_X12_was) (pc := 229) dX12_was_229 rfl ?_
          refine ev_aload_n (X := M_X12_was) (pc := 231) dX12_was_231 rfl ?_
          refine ev_getRe (X := M_X12_was) (pc := 232) dX12_was_232 fl_X12_42_12 (lO_156 hL) rfl (lR_156_17 hL) ?_
          refine ev_iload (X := M_X12_was) (pc := 235) dX12_was_235 rfl ?_
          refine ev_zaloadE (X := M_X12_was) (pc := 237) dX12_was_237 (lS_167 hL) (by omega) (w2 s (by omega)) ?_
          refine ev_if_eq (X := M_X12_was) (pc := 238) (tgt := 245) dX12_was_238 (by decide) (by omega) (fun h238 => ?_) (fun h238 => ?_)
          · refine ev_iconst (X := M_X12_was) (pc := 245) dX12_was_245 ?_
            refine ev_iadd (X := M_X12_was) (pc := 246) dX12_was_246 ?_
            refine ev_istoreL (X := M_X12_was) (pc := 247) (ls' := [_, _, _, _, _, _, _]) dX12_was_247 (by decide) rfl ?_
            refine ev_aload_n (X := M_X12_was) (pc := 249) dX12_was_249 rfl ?_
            refine ev_getRe (X := M_X12_was) (pc := 250) dX12_was_250 fl_X12_42_12 (lO_156 hL) rfl (lR_156_17 hL) ?_
            refine ev_iload (X := M_X12_was) (pc := 253) dX12_was_253 rfl ?_
            refine ev_zaloadE (X := M_X12_was) (pc := 255) dX12_was_255 (lS_167 hL) (by omega) (w2 s (by omega)) ?_
            refine ev_if_eq (X := M_X12_was) (pc := 256) (tgt := 264) dX12_was_256 (by decide) (by omega) (fun h256 => ?_) (fun h256 => ?_)
            · refine ev_iload (X := M_X12_was) (pc := 264) dX12_was_264 rfl ?_
              refine ev_istoreL (X := M_X12_was) (pc := 266) (ls' := [_, _, _, _, _, _, _]) dX12_was_266 (by decide) rfl ?_
              refine ev_iincL (X := M_X12_was) (pc := 268) (ls' := [_, _, _, _, _, _, _]) dX12_was_268 rfl (by decide) rfl ?_
              refine ev_goto (X := M_X12_was) (pc := 271) (tgt := 224) dX12_was_271 (by decide) ?_
              first
                | (exfalso; omega)
                | (have hz : U s = 0 := by omega
                   exact ev_weak (nxt _ _ (hnot hz).1 (hnot hz).2) ⟨rfl, rfl, rfl, rfl, rfl, rfl, rfl, trivial⟩)
                | (have hz : U s = 1 := by omega
                   exact ev_weak (nxt _ _ (hyes hz).1 (hyes hz).2) ⟨rfl, rfl, rfl, rfl, rfl, rfl, rfl, trivial⟩)
            · refine ev_iload (X := M_X12_was) (pc := 259) dX12_was_259 rfl ?_
              refine ev_goto (X := M_X12_was) (pc := 261) (tgt := 266) dX12_was_261 (by decide) ?_
              refine ev_istoreL (X := M_X12_was) (pc := 266) (ls' := [_, _, _, _, _, _, _]) dX12_was_266 (by decide) rfl ?_
              refine ev_iincL (X := M_X12_was) (pc := 268) (ls' := [_, _, _, _, _, _, _]) dX12_was_268 rfl (by decide) rfl ?_
              refine ev_goto (X := M_X12_was) (pc := 271) (tgt := 224) dX12_was_271 (by decide) ?_
              first
                | (exfalso; omega)
                | (have hz : U s = 0 := by omega
                   exact ev_weak (nxt _ _ (hnot hz).1 (hnot hz).2) ⟨rfl, rfl, rfl, rfl, rfl, rfl, rfl, trivial⟩)
                | (have hz : U s = 1 := by omega
                   exact ev_weak (nxt _ _ (hyes hz).1 (hyes hz).2) ⟨rfl, rfl, rfl, rfl, rfl, rfl, rfl, trivial⟩)
          · refine ev_iconst (X := M_X12_was) (pc := 241) dX12_was_241 ?_
            refine ev_goto (X := M_X12_was) (pc := 242) (tgt := 246) dX12_was_242 (by decide) ?_
            refine ev_iadd (X := M_X12_was) (pc := 246) dX12_was_246 ?_
            refine ev_istoreL (X := M_X12_was) (pc := 247) (ls' := [_, _, _, _, _, _, _]) dX12_was_247 (by decide) rfl ?_
            refine ev_aload_n (X := M_X12_was) (pc := 249) dX12_was_249 rfl ?_
            refine ev_getRe (X := M_X12_was) (pc := 250) dX12_was_250 fl_X12_42_12 (lO_156 hL) rfl (lR_156_17 hL) ?_
            refine ev_iload (X := M_X12_was) (pc := 253) dX12_was_253 rfl ?_
            refine ev_zaloadE (X := M_X12_was) (pc := 255) dX12_was_255 (lS_167 hL) (by omega) (w2 s (by omega)) ?_
            refine ev_if_eq (X := M_X12_was) (pc := 256) (tgt := 264) dX12_was_256 (by decide) (by omega) (fun h256 => ?_) (fun h256 => ?_)
            · refine ev_iload (X := M_X12_was) (pc := 264) dX12_was_264 rfl ?_
              refine ev_istoreL (X := M_X12_was) (pc := 266) (ls' := [_, _, _, _, _, _, _]) dX12_was_266 (by decide) rfl ?_
              refine ev_iincL (X := M_X12_was) (pc := 268) (ls' := [_, _, _, _, _, _, _]) dX12_was_268 rfl (by decide) rfl ?_
              refine ev_goto (X := M_X12_was) (pc := 271) (tgt := 224) dX12_was_271 (by decide) ?_
              first
                | (exfalso; omega)
                | (have hz : U s = 0 := by omega
                   exact ev_weak (nxt _ _ (hnot hz).1 (hnot hz).2) ⟨rfl, rfl, rfl, rfl, rfl, rfl, rfl, trivial⟩)
                | (have hz : U s = 1 := by omega
                   exact ev_weak (nxt _ _ (hyes hz).1 (hyes hz).2) ⟨rfl, rfl, rfl, rfl, rfl, rfl, rfl, trivial⟩)
            · refine ev_iload (X := M_X12_was) (pc := 259) dX12_was_259 rfl ?_
              refine ev_goto (X := M_X12_was) (pc := 261) (tgt := 266) dX12_was_261 (by decide) ?_
              refine ev_istoreL (X := M_X12_was) (pc := 266) (ls' := [_, _, _, _, _, _, _]) dX12_was_266 (by decide) rfl ?_
              refine ev_iincL (X := M_X12_was) (pc := 268) (ls' := [_, _, _, _, _, _, _]) dX12_was_268 rfl (by decide) rfl ?_
              refine ev_goto (X := M_X12_was) (pc := 271) (tgt := 224) dX12_was_271 (by decide) ?_
              first
                | (exfalso; omega)
                | (have hz : U s = 0 := by omega
                   exact ev_weak (nxt _ _ (hnot hz).1 (hnot hz).2) ⟨rfl, rfl, rfl, rfl, rfl, rfl, rfl, trivial⟩)
                | (have hz : U s = 1 := by omega
                   exact ev_weak (nxt _ _ (hyes hz).1 (hyes hz).2) ⟨rfl, rfl, rfl, rfl, rfl, rfl, rfl, trivial⟩)
      have ph2 : ∀ W, fr2 167 168 W1 W → (∀ t, 0 ≤ t ∧ t < 2197 → W 167 t = wbK C F (nowS D) 0 t) → Ev γ M_X12_was 42 0 0 75 [vR 156, vI n, vI w, vI F, vU, vU, vU] [] K W Q := by
        intro W w1 w2
        refine ev_iconst (X := M_X12_was) (pc := 75) dX12_was_75 ?_
        refine ev_istoreL (X := M_X12_was) (pc := 76) (ls' := [_, _, _, _, _, _, _]) dX12_was_76 (by decide) rfl ?_
        refine ev_weak (ev_while (σ := Int × Mm) (fun s => 0 ≤ s.1 ∧ s.1 ≤ n ∧ fr2 167 168 W1 s.2 ∧ ∀ t, 0 ≤ t ∧ t < 2197 → s.2 167 t = wbK C F (nowS D) s.1.toNat t) (fun s => (n - s.1).toNat) (fun s => [vR 156, vI n, vI w, vI F, vI s.1, vU, vU]) (fun _ => K) (fun s => s.2) ?_ (0, W) ⟨Int.le_refl 0, hn6.1, w1, w2⟩) ⟨rfl, rfl, rfl, rfl, rfl, trivial⟩
        clear w1 w2 W
        rintro ⟨k, W⟩ ⟨k0, k1, w1, w2⟩ ih
        dsimp only at k0 k1 w1 w2 ih ⊢
        refine ev_iload (X := M_X12_was) (pc := 78) dX12_was_78 rfl ?_
        refine ev_iload_n (X := M_X12_was) (pc := 80) dX12_was_80 rfl ?_
        refine ev_icmp_ge (X := M_X12_was) (pc := 81) (tgt := 213) dX12_was_81 (by decide) (by omega) (by omega) (fun h81 => ?_) (fun h81 => ?_)
        · have hk : k = n := by omega
          rw [hk] at w2
          exact ev_weak (ph5 W w1 w2) ⟨rfl, rfl, rfl, rfl, trivial⟩
        · refine ev_iconst (X := M_X12_was) (pc := 84) dX12_was_84 ?_
          refine ev_istoreL (X := M_X12_was) (pc := 85) (ls' := [_, _, _, _, _, _, _]) dX12_was_85 (by decide) rfl ?_
          have h01 := wbK_01 (C := C) (F := F) (s0 := nowS D) k.toNat
          have hUs : ∀ t, wbK C F (nowS D) (k + 1).toNat t = if isSt t ∧ hit C F (wbK C F (nowS D) k.toNat) t then 1 else 0 := fun t => by
            rw [show (k + 1).toNat = k.toNat + 1 by omega]
            rfl
          generalize wbK C F (nowS D) k.toNat = U at *
          have ph4 : ∀ W, fr2 167 168 W1 W → (∀ t, 0 ≤ t ∧ t < 2197 → W 168 t = if isSt t ∧ hit C F U t then 1 else 0) → Ev γ M_X12_was 42 0 0 176 [vR 156, vI n, vI w, vI F, vI k, vU, vU] [] K W Q := by
            intro W w1 w2
            refine ev_iconst (X := M_X12_was) (pc := 176) dX12_was_176 ?_
            refine ev_istoreL (X := M_X12_was) (pc := 177) (ls' := [_, _, _, _, _, _, _]) dX12_was_177 (by decide) rfl ?_
            refine ev_weak (ev_while (σ := Int × Mm) (fun s => 0 ≤ s.1 ∧ s.1 ≤ 2197 ∧ fr2 167 168 W1 s.2 ∧ (∀ t, 0 ≤ t ∧ t < 2197 → s.2 168 t = if isSt t ∧ hit C F U t then 1 else 0) ∧ ∀ t, 0 ≤ t ∧ t < s.1 → s.2 167 t = if isSt t ∧ hit C F U t then 1 else 0) (fun s => (2197 - s.1).toNat) (fun s => [vR 156, vI n, vI w, vI F, vI k, vI s.1, vU]) (fun _ => K) (fun s => s.2) ?_ (0, W) ⟨Int.le_refl 0, by show (0 : Int) ≤ 2197; decide, w1, w2, fun t ht => by change 0 ≤ t ∧ t < 0 at ht; omega⟩) ⟨rfl, rfl, rfl, rfl, rfl, rfl, trivial⟩
            clear w1 w2 W
            rintro ⟨s, W⟩ ⟨s0, s1, w1, w2, w3⟩ ih3
            dsimp only at s0 s1 w1 w2 w3 ih3 ⊢
            refine ev_iload (X := M_X12_was) (pc := 179) dX12_was_179 rfl ?_
            refine ev_sipush (X := M_X12_was) (pc := 181) dX12_was_181 (by decide) ?_
            refine ev_icmp_ge (X := M_X12_was) (pc := 184) (tgt := 207) dX12_was_184 (by decide) (by omega) (by omega) (fun h184 => ?_) (fun h184 => ?_)
            · refine ev_iincL (X := M_X12_was) (pc := 207) (ls' := [_, _, _, _, _, _, _]) dX12_was_207 rfl (by decide) rfl ?_
              refine ev_goto (X := M_X12_was) (pc := 210) (tgt := 78) dX12_was_210 (by decide) ?_
              refine ev_weak (ih (k + 1, W) ⟨by omega, by omega, w1, fun t ht => ?_⟩ (by show (n - (k + 1)).toNat < (n - k).toNat; omega)) ⟨rfl, rfl, rfl, rfl, rfl, trivial⟩
              show W 167 t = wbK C F (nowS D) (k + 1).toNat t
              rw [hUs t]
              exact w3 t (by omega)
            · refine ev_aload_n (X := M_X12_was) (pc := 187) dX12_was_187 rfl ?_
              refine ev_getRe (X := M_X12_was) (pc := 188) dX12_was_188 fl_X12_42_12 (lO_156 hL) rfl (lR_156_17 hL) ?_
              refine ev_iload (X := M_X12_was) (pc := 191) dX12_was_191 rfl ?_
              refine ev_aload_n (X := M_X12_was) (pc := 193) dX12_was_193 rfl ?_
              refine ev_getRe (X := M_X12_was) (pc := 194) dX12_was_194 fl_X12_45_12 (lO_156 hL) rfl (lR_156_18 hL) ?_
              refine ev_iload (X := M_X12_was) (pc := 197) dX12_was_197 rfl ?_
              refine ev_zaload (X := M_X12_was) (pc := 199) dX12_was_199 (lS_168 hL) (by omega) ?_
              refine ev_zastore (X := M_X12_was) (pc := 200) dX12_was_200 (by decide) (lS_167 hL) (by omega) (by rw [w2 s (by omega)]; split <;> omega) ?_
              refine ev_iincL (X := M_X12_was) (pc := 201) (ls' := [_, _, _, _, _, _, _]) dX12_was_201 rfl (by decide) rfl ?_
              refine ev_goto (X := M_X12_was) (pc := 204) (tgt := 179) dX12_was_204 (by decide) ?_
              refine ev_weak (ih3 (s + 1, wr W 167 s (W 168 s)) ⟨by omega, by omega, fr2.wr w1 (Or.inl rfl) _ _, fun t ht => ?_, fun t ht => ?_⟩ (by show (2197 - (s + 1)).toNat < (2197 - s).toNat; omega)) ⟨rfl, rfl, rfl, rfl, rfl, rfl, trivial⟩
              · show wr W 167 s (W 168 s) 168 t = _
                rw [wr_off (by decide)]
                exact w2 t ht
              · show wr W 167 s (W 168 s) 167 t = _
                change 0 ≤ t ∧ t < s + 1 at ht
                rw [wr_row]
                by_cases z : t = s
                · rw [z, up_self]
                  exact w2 s (by omega)
                · rw [up_ne z]
                  exact w3 t (by omega)
          refine ev_weak (ev_while (σ := Int × Mm) (fun s => 0 ≤ s.1 ∧ s.1 ≤ 2197 ∧ fr2 167 168 W1 s.2 ∧ (∀ t, 0 ≤ t ∧ t < 2197 → s.2 167 t = U t) ∧ ∀ t, 0 ≤ t ∧ t < s.1 → s.2 168 t = if isSt t ∧ hit C F U t then 1 else 0) (fun s => (2197 - s.1).toNat) (fun s => [vR 156, vI n, vI w, vI F, vI k, vI s.1, vU]) (fun _ => K) (fun s => s.2) ?_ (0, W) ⟨Int.le_refl 0, by show (0 : Int) ≤ 2197; decide, w1, w2, fun t ht => by change 0 ≤ t ∧ t < 0 at ht; omega⟩) ⟨rfl, rfl, rfl, rfl, rfl, rfl, trivial⟩
          clear w1 w2 W
          rintro ⟨s, W⟩ ⟨s0, s1, w1, w2, w3⟩ ih3
          dsimp only at s0 s1 w1 w2 w3 ih3 ⊢
          refine ev_iload (X := M_X12_was) (pc := 87) dX12_was_87 rfl ?_
          refine ev_sipush (X := M_X12_was) (pc := 89) dX12_was_89 (by decide) ?_
          refine ev_icmp_ge (X := M_X12_was) (pc := 92) (tgt := 176) dX12_was_92 (by decide) (by omega) (by omega) (fun h92 => ?_) (fun h92 => ?_)
          · exact ev_weak (ph4 W w1 (fun t ht => w3 t (by omega))) ⟨rfl, rfl, rfl, rfl, rfl, trivial⟩
          · refine ev_aload_n (X := M_X12_was) (pc := 95) dX12_was_95 rfl ?_
            refine ev_getRe (X := M_X12_was) (pc := 96) dX12_was_96 fl_X12_45_12 (lO_156 hL) rfl (lR_156_18 hL) ?_
            refine ev_iload (X := M_X12_was) (pc := 99) dX12_was_99 rfl ?_
            refine ev_iconst (X := M_X12_was) (pc := 101) dX12_was_101 ?_
            refine ev_zastore (X := M_X12_was) (pc := 102) dX12_was_102 (by decide) (lS_168 hL) (by omega) (by decide) ?_
            refine ev_iconst (X := M_X12_was) (pc := 103) dX12_was_103 ?_
            refine ev_istoreL (X := M_X12_was) (pc := 104) (ls' := [_, _, _, _, _, _, _]) dX12_was_104 (by decide) rfl ?_
            refine ev_weak (ev_while (σ := Int × Mm) (fun z => 0 ≤ z.1 ∧ z.1 ≤ 6 ∧ fr2 167 168 W1 z.2 ∧ (∀ t, 0 ≤ t ∧ t < 2197 → z.2 167 t = U t) ∧ (∀ t, 0 ≤ t ∧ t < s → z.2 168 t = if isSt t ∧ hit C F U t then 1 else 0) ∧ (z.2 168 s = 0 ∨ z.2 168 s = 1) ∧ (z.2 168 s = 1 ↔ isSt s ∧ ∃ p, 0 ≤ p ∧ p < z.1 ∧ hitP C F U s p)) (fun z => (6 - z.1).toNat) (fun z => [vR 156, vI n, vI w, vI F, vI k, vI s, vI z.1]) (fun _ => K) (fun z => z.2) ?_ (0, wr W 168 s 0) ⟨Int.le_refl 0, by show (0 : Int) ≤ 6; decide, fr2.wr w1 (Or.inr rfl) _ _, fun t ht => by show wr W 168 s 0 167 t = _; rw [wr_off (by decide)]; exact w2 t ht, fun t ht => by show wr W 168 s 0 168 t = _; rw [wr_row, up_ne (by omega)]; exact w3 t ht, Or.inl (show wr W 168 s 0 168 s = 0 from wr_self), ?_⟩) ⟨rfl, rfl, rfl, rfl, rfl, rfl, rfl, trivial⟩
            rotate_left
            · show wr W 168 s 0 168 s = 1 ↔ _
              rw [wr_self]
              constructor
              · intro z; exact absurd z (by decide)
              · rintro ⟨_, p, p0, p1, _⟩
                change p < 0 at p1
                omega
            clear w1 w2 w3 W
            rintro ⟨p, W⟩ ⟨p0, p1, w1, w2, w3, w4, w5⟩ ih4
            dsimp only at p0 p1 w1 w2 w3 w4 w5 ih4 ⊢
            have hC2 : W 161 = C := by rw [w1 161 (by decide) (by decide)]; exact hC1
            have hs7 : 0 ≤ s ∧ s < 2197 := by omega
            have hfin : (p = 6 ∨ ¬ isSt s) → Ev γ M_X12_was 42 0 0 170 [vR 156, vI n, vI w, vI F, vI k, vI s, vU] [] K W Q := fun hend => by
              refine ev_iincL (X := M_X12_was) (pc := 170) (ls' := [_, _, _, _, _, _, _]) dX12_was_170 rfl (by decide) rfl ?_
              refine ev_goto (X := M_X12_was) (pc := 173) (tgt := 87) dX12_was_173 (by decide) ?_
              refine ev_weak (ih3 (s + 1, W) ⟨by omega, by omega, w1, w2, fun t ht => ?_⟩ (by show (2197 - (s + 1)).toNat < (2197 - s).toNat; omega)) ⟨rfl, rfl, rfl, rfl, rfl, rfl, trivial⟩
              show W 168 t = _
              change 0 ≤ t ∧ t < s + 1 at ht
              by_cases z : t = s
              · rw [z]
                by_cases y : isSt s ∧ hit C F U s
                · rw [if_pos y, w5]
                  refine ⟨y.1, ?_⟩
                  have hp6 := hend.resolve_right (fun q => q y.1)
                  exact Classical.byContradiction fun q => hit_no (fun p h0 h1 hh => q ⟨p, h0, by omega, hh⟩) y.2
                · rw [if_neg y]
                  have : W 168 s ≠ 1 := fun q => by
                    obtain ⟨q1, p', h0, h1, hh⟩ := w5.mp q
                    exact y ⟨q1, hit_of (p := p') (by omega) hh⟩
                  omega
              · exact w3 t (by omega)
            refine ev_iload (X := M_X12_was) (pc := 106) dX12_was_106 rfl ?_
            refine ev_bipush (X := M_X12_was) (pc := 108) dX12_was_108 (by decide) ?_
            refine ev_icmp_ge (X := M_X12_was) (pc := 110) (tgt := 170) dX12_was_110 (by decide) (by omega) (by omega) (fun h110 => ?_) (fun h110 => ?_)
            · first
                | exact ev_weak (hfin (Or.inl (by omega))) ⟨rfl, rfl, rfl, rfl, rfl, rfl, trivial⟩
                | exact ev_weak (hfin (Or.inr (fun z => by rw [if_pos z] at h118; exact absurd h118 (by decide)))) ⟨rfl, rfl, rfl, rfl, rfl, rfl, trivial⟩
            · refine ev_iload (X := M_X12_was) (pc := 113) dX12_was_113 rfl ?_
              refine ev_staticR (X := M_X12_was) (Y := M_X12_isState) (pc := 115) dX12_was_115 mk_X12_isState kw_1284 kw_1285 (m_isState (by omega)) rfl (by decide) rfl (Nat.le_of_ble_eq_true rfl) (Nat.zero_add _) (Nat.zero_add _) ?_
              refine ev_if_eq (X := M_X12_was) (pc := 118) (tgt := 170) dX12_was_118 (by decide) (by split <;> decide) (fun h118 => ?_) (fun h118 => ?_)
              · first
                  | exact ev_weak (hfin (Or.inl (by omega))) ⟨rfl, rfl, rfl, rfl, rfl, rfl, trivial⟩
                  | exact ev_weak (hfin (Or.inr (fun z => by rw [if_pos z] at h118; exact absurd h118 (by decide)))) ⟨rfl, rfl, rfl, rfl, rfl, rfl, trivial⟩
              · have hst : isSt s := Decidable.byContradiction fun z => h118 (by rw [if_neg z])
                have nxt : ∀ y, (y = 0 ∨ y = 1) → (y = 1 ↔ hitP C F U s p) → Ev γ M_X12_was 42 0 0 106 [vR 156, vI n, vI w, vI F, vI k, vI s, vI (p + 1)] [] K (wr W 168 s (op_ior (W 168 s) y)) Q := fun y hy hyi => by
                  obtain ⟨o1, o2⟩ := ior01 w4 hy
                  refine ih4 (p + 1, wr W 168 s (op_ior (W 168 s) y)) ⟨by omega, by omega, fr2.wr w1 (Or.inr rfl) _ _, fun t ht => ?_, fun t ht => ?_, ?_, ?_⟩ (by show (6 - (p + 1)).toNat < (6 - p).toNat; omega)
                  · show wr W 168 s (op_ior (W 168 s) y) 167 t = _
                    rw [wr_off (by decide)]
                    exact w2 t ht
                  · show wr W 168 s (op_ior (W 168 s) y) 168 t = _
                    rw [wr_row, up_ne (by omega)]
                    exact w3 t ht
                  · show wr W 168 s (op_ior (W 168 s) y) 168 s = 0 ∨ wr W 168 s (op_ior (W 168 s) y) 168 s = 1
                    rw [wr_self]
                    exact o1
                  · show wr W 168 s (op_ior (W 168 s) y) 168 s = 1 ↔ _
                    rw [wr_self, o2, w5, hyi]
                    constructor
                    · rintro (⟨q1, p', h0, h1, hh⟩ | q)
                      · exact ⟨q1, p', h0, by show p' < p + 1; omega, hh⟩
                      · exact ⟨hst, p, p0, by show p < p + 1; omega, q⟩
                    · rintro ⟨q1, p', h0, h1, hh⟩
                      change p' < p + 1 at h1
                      by_cases e : p' = p
                      · rw [e] at hh
                        exact Or.inr hh
                      · exact Or.inl ⟨q1, p', h0, by omega, hh⟩
                refine ev_aload_n (X := M_X12_was) (pc := 121) dX12_was_121 rfl ?_
                refine ev_getRe (X := M_X12_was) (pc := 122) dX12_was_122 fl_X12_45_12 (lO_156 hL) rfl (lR_156_18 hL) ?_
                refine ev_iload (X := M_X12_was) (pc := 125) dX12_was_125 rfl ?_
                refine ev_dup2 (X := M_X12_was) (pc := 127) dX12_was_127 (fun _ q => by cases q) (fun _ q => by cases q) ?_
                refine ev_zaload (X := M_X12_was) (pc := 128) dX12_was_128 (lS_168 hL) (by omega) ?_
                refine ev_aload_n (X := M_X12_was) (pc := 129) dX12_was_129 rfl ?_
                refine ev_iload (X := M_X12_was) (pc := 130) dX12_was_130 rfl ?_
                refine ev_iload (X := M_X12_was) (pc := 132) dX12_was_132 rfl ?_
                refine ev_iload_n (X := M_X12_was) (pc := 134) dX12_was_134 rfl ?_
                refine ev_virtR (X := M_X12_was) (Y := M_X12_mayMeet) (pc := 135) (ci := 12) dX12_was_135 mk_X12_mayMeet rfl kw_1219 kw_1221 kp_23 (lO_156 hL) (m_mayMeet hL hC hC2 (by omega) hs7 hF6) rfl (by decide) rfl (Nat.le_of_ble_eq_true rfl) (Nat.zero_add _) (Nat.zero_add _) ?_
                refine ev_if_eq (X := M_X12_was) (pc := 138) (tgt := 161) dX12_was_138 (by decide) (by split <;> decide) (fun h138 => ?_) (fun h138 => ?_)
                · have hm : ¬ may C F s p := fun z => by rw [if_pos z] at h138; exact absurd h138 (by decide)
                  have hgo := nxt 0 (Or.inl rfl) ⟨fun z => absurd z (by decide), fun z => by exfalso; apply z.1; unfold nx; rw [if_neg hm]⟩
                  have hio := (ior01 w4 (y := 0) (Or.inl rfl)).1
                  refine ev_iconst (X := M_X12_was) (pc := 161) dX12_was_161 ?_
                  refine ev_ior (X := M_X12_was) (pc := 162) dX12_was_162 ?_
                  refine ev_zastore (X := M_X12_was) (pc := 163) dX12_was_163 (by decide) (lS_168 hL) (by exact hs7) (by exact hio) ?_
                  refine ev_iincL (X := M_X12_was) (pc := 164) (ls' := [_, _, _, _, _, _, _]) dX12_was_164 rfl (by decide) rfl ?_
                  refine ev_goto (X := M_X12_was) (pc := 167) (tgt := 106) dX12_was_167 (by decide) ?_
                  exact ev_weak hgo ⟨rfl, rfl, rfl, rfl, rfl, rfl, rfl, trivial⟩
                · have hm : may C F s p := Decidable.byContradiction fun z => h138 (by rw [if_neg z])
                  have hnx : nx C F s p = aft C s p := by unfold nx; rw [if_pos hm]
                  have hn1 := (nx_ne (F := F) hC (by omega) hst).mpr hm
                  have hns := nx_st hC (by omega) hst hn1
                  rw [hnx] at hns
                  have hnsl := isSt_lt hns
                  have h01n := h01 (aft C s p)
                  refine ev_aload_n (X := M_X12_was) (pc := 141) dX12_was_141 rfl ?_
                  refine ev_getRe (X := M_X12_was) (pc := 142) dX12_was_142 fl_X12_42_12 (lO_156 hL) rfl (lR_156_17 hL) ?_
                  refine ev_aload_n (X := M_X12_was) (pc := 145) dX12_was_145 rfl ?_
                  refine ev_iload (X := M_X12_was) (pc := 146) dX12_was_146 rfl ?_
                  refine ev_iload (X := M_X12_was) (pc := 148) dX12_was_148 rfl ?_
                  refine ev_virtR (X := M_X12_was) (Y := M_X12_after) (pc := 150) (ci := 12) dX12_was_150 mk_X12_after rfl kw_1248 kw_1250 kp_26 (lO_156 hL) (m_after hL hC hC2 (by omega)) rfl (by decide) rfl (Nat.le_of_ble_eq_true rfl) (Nat.zero_add _) (Nat.zero_add _) ?_
                  refine ev_zaloadE (X := M_X12_was) (pc := 153) dX12_was_153 (lS_167 hL) (by exact hnsl) (w2 _ hnsl) ?_
                  refine ev_if_eq (X := M_X12_was) (pc := 154) (tgt := 161) dX12_was_154 (by decide) (by omega) (fun h154 => ?_) (fun h154 => ?_)
                  · have hgo := nxt 0 (Or.inl rfl) ⟨fun z => absurd z (by decide), fun z => by have := z.2; rw [hnx] at this; omega⟩
                    have hio := (ior01 w4 (y := 0) (Or.inl rfl)).1
                    refine ev_iconst (X := M_X12_was) (pc := 161) dX12_was_161 ?_
                    refine ev_ior (X := M_X12_was) (pc := 162) dX12_was_162 ?_
                    refine ev_zastore (X := M_X12_was) (pc := 163) dX12_was_163 (by decide) (lS_168 hL) (by exact hs7) (by exact hio) ?_
                    refine ev_iincL (X := M_X12_was) (pc := 164) (ls' := [_, _, _, _, _, _, _]) dX12_was_164 rfl (by decide) rfl ?_
                    refine ev_goto (X := M_X12_was) (pc := 167) (tgt := 106) dX12_was_167 (by decide) ?_
                    exact ev_weak hgo ⟨rfl, rfl, rfl, rfl, rfl, rfl, rfl, trivial⟩
                  · have hgo := nxt 1 (Or.inr rfl) ⟨fun _ => ⟨hn1, by rw [hnx]; omega⟩, fun _ => rfl⟩
                    have hio := (ior01 w4 (y := 1) (Or.inr rfl)).1
                    refine ev_iconst (X := M_X12_was) (pc := 157) dX12_was_157 ?_
                    refine ev_goto (X := M_X12_was) (pc := 158) (tgt := 162) dX12_was_158 (by decide) ?_
                    refine ev_ior (X := M_X12_was) (pc := 162) dX12_was_162 ?_
                    refine ev_zastore (X := M_X12_was) (pc := 163) dX12_was_163 (by decide) (lS_168 hL) (by exact hs7) (by exact hio) ?_
                    refine ev_iincL (X := M_X12_was) (pc := 164) (ls' := [_, _, _, _, _, _, _]) dX12_was_164 rfl (by decide) rfl ?_
                    refine ev_goto (X := M_X12_was) (pc := 167) (tgt := 106) dX12_was_167 (by decide) ?_
                    exact ev_weak hgo ⟨rfl, rfl, rfl, rfl, rfl, rfl, rfl, trivial⟩
      refine ev_weak (ev_while (σ := Int × Mm) (fun s => 0 ≤ s.1 ∧ s.1 ≤ 2197 ∧ fr2 167 168 W1 s.2 ∧ ∀ t, 0 ≤ t ∧ t < s.1 → s.2 167 t = wbK C F (nowS D) 0 t) (fun s => (2197 - s.1).toNat) (fun s => [vR 156, vI n, vI w, vI F, vI s.1, vU, vU]) (fun _ => K) (fun s => s.2) ?_ (0, W1) ⟨Int.le_refl 0, by show (0 : Int) ≤ 2197; decide, fun _ _ _ => rfl, fun t ht => by change 0 ≤ t ∧ t < 0 at ht; omega⟩) ⟨rfl, rfl, rfl, rfl, rfl, trivial⟩
      rintro ⟨s, W⟩ ⟨s0, s1, w1, w2⟩ ih
      dsimp only at s0 s1 w1 w2 ih ⊢
      have hD2 : W 157 = D := by rw [w1 157 (by decide) (by decide)]; exact hD1
      have hnext : ∀ x, x = (if s = nowS D then (1 : Int) else 0) → s < 2197 → Ev γ M_X12_was 42 0 0 40 [vR 156, vI n, vI w, vI F, vI (s + 1), vU, vU] [] K (wr W 167 s x) Q := fun x hx hq => by
        refine ih (s + 1, wr W 167 s x) ⟨by omega, by omega, fr2.wr w1 (Or.inl rfl) _ _, fun r ⟨r0, r1⟩ => ?_⟩ (by show (2197 - (s + 1)).toNat < (2197 - s).toNat; omega)
        show wr W 167 s x 167 r = _
        rw [wr_row]
        change r < s + 1 at r1
        by_cases e : r = s
        · rw [e, up_self, hx]
          rfl
        · rw [up_ne e]
          exact w2 r ⟨r0, by omega⟩
      refine ev_iload (X := M_X12_was) (pc := 40) dX12_was_40 rfl ?_
      refine ev_sipush (X := M_X12_was) (pc := 42) dX12_was_42 (by decide) ?_
      refine ev_icmp_ge (X := M_X12_was) (pc := 45) (tgt := 75) dX12_was_45 (by decide) (by omega) (by omega) (fun h45 => ?_) (fun h45 => ?_)
      · exact ev_weak (ph2 W w1 (fun t ht => w2 t (by omega))) ⟨rfl, rfl, rfl, rfl, trivial⟩
      · refine ev_aload_n (X := M_X12_was) (pc := 48) dX12_was_48 rfl ?_
        refine ev_getRe (X := M_X12_was) (pc := 49) dX12_was_49 fl_X12_42_12 (lO_156 hL) rfl (lR_156_17 hL) ?_
        refine ev_iload (X := M_X12_was) (pc := 52) dX12_was_52 rfl ?_
        refine ev_iload (X := M_X12_was) (pc := 54) dX12_was_54 rfl ?_
        refine ev_aload_n (X := M_X12_was) (pc := 56) dX12_was_56 rfl ?_
        refine ev_virtR (X := M_X12_was) (Y := M_X12_now) (pc := 57) (ci := 12) dX12_was_57 mk_X12_now rfl kw_1168 kw_1170 kp_18 (lO_156 hL) (m_nowE hL hD2) rfl (by decide) rfl (Nat.le_of_ble_eq_true rfl) (Nat.zero_add _) (Nat.zero_add _) ?_
        refine ev_icmp_ne (X := M_X12_was) (pc := 60) (tgt := 67) dX12_was_60 (by decide) (by omega) (by omega) (fun h60 => ?_) (fun h60 => ?_)
        · refine ev_iconst (X := M_X12_was) (pc := 67) dX12_was_67 ?_
          refine ev_zastore (X := M_X12_was) (pc := 68) dX12_was_68 (by decide) (lS_167 hL) (by omega) (by decide) ?_
          refine ev_iincL (X := M_X12_was) (pc := 69) (ls' := [_, _, _, _, _, _, _]) dX12_was_69 rfl (by decide) rfl ?_
          refine ev_goto (X := M_X12_was) (pc := 72) (tgt := 40) dX12_was_72 (by decide) ?_
          first
            | exact ev_weak (hnext 1 (by rw [if_pos (by omega)]) (by omega)) ⟨rfl, rfl, rfl, rfl, rfl, trivial⟩
            | exact ev_weak (hnext 0 (by rw [if_neg (by omega)]) (by omega)) ⟨rfl, rfl, rfl, rfl, rfl, trivial⟩
        · refine ev_iconst (X := M_X12_was) (pc := 63) dX12_was_63 ?_
          refine ev_goto (X := M_X12_was) (pc := 64) (tgt := 68) dX12_was_64 (by decide) ?_
          refine ev_zastore (X := M_X12_was) (pc := 68) dX12_was_68 (by decide) (lS_167 hL) (by omega) (by decide) ?_
          refine ev_iincL (X := M_X12_was) (pc := 69) (ls' := [_, _, _, _, _, _, _]) dX12_was_69 rfl (by decide) rfl ?_
          refine ev_goto (X := M_X12_was) (pc := 72) (tgt := 40) dX12_was_72 (by decide) ?_
          first
            | exact ev_weak (hnext 1 (by rw [if_pos (by omega)]) (by omega)) ⟨rfl, rfl, rfl, rfl, rfl, trivial⟩
            | exact ev_weak (hnext 0 (by rw [if_neg (by omega)]) (by omega)) ⟨rfl, rfl, rfl, rfl, rfl, trivial⟩
    · have hno : ¬ ((0 ≤ n ∧ n ≤ 6) ∧ 0 ≤ w ∧ w ≤ 1) := fun z => by rw [if_pos z.2] at h19; exact absurd h19 (by decide)
      refine ev_aload_n (X := M_X12_was) (pc := 22) dX12_was_22 rfl ?_
      refine ev_iconst (X := M_X12_was) (pc := 23) dX12_was_23 ?_
      refine ev_virtR (X := M_X12_was) (Y := M_X12_finds) (pc := 24) (ci := 12) dX12_was_24 mk_X12_finds rfl kw_1092 kw_1094 kp_5 (lO_156 hL) (m_finds hL (by decide)) rfl (by decide) rfl (Nat.le_of_ble_eq_true rfl) (Nat.zero_add _) (Nat.zero_add _) ?_
      refine ev_iret (X := M_X12_was) (pc := 27) dX12_was_27 rfl ?_
      rw [if_neg hno, if_neg hno]
      exact ⟨rfl, rfl, (MS.rf hZ).er 1⟩
