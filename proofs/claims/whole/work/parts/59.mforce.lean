def fr4 (V W : Mm) : Prop := ∀ c, ¬ (169 ≤ c ∧ c ≤ 172) → W c = V c
theorem fr4.w {V W : Mm} (h : fr4 V W) {a : Nat} (ha : 169 ≤ a ∧ a ≤ 172) (i x : Int) : fr4 V (wr W a i x) := fun c z => by rw [wr_off (by omega)]; exact h c z
theorem m_oneMore {γ : Gh} {K : Sk} {V : Mm} (hL : Lay K) {C : Int → Int} {F k : Int} {Uf Uo : Int → Int} (hC : wfC C) (hC1 : V 161 = C) (hF6 : 0 ≤ F ∧ F < 64) (hk : 0 ≤ k ∧ k < 3) (hUf : ∀ t, 0 ≤ t ∧ t < 2197 → V 169 t = Uf t) (hUo : ∀ t, 0 ≤ t ∧ t < 2197 → V 170 t = Uo t) (hf01 : ∀ t, Uf t = 0 ∨ Uf t = 1) (ho01 : ∀ t, Uo t = 0 ∨ Uo t = 1) : Call γ M_X12_oneMore 2 0 0 [vR 156, vI k, vI F] K V (Qx none K (fun W => fr4 V W ∧ (∀ t, 0 ≤ t ∧ t < 2197 → W 169 t = vF C F k Uo t) ∧ ∀ t, 0 ≤ t ∧ t < 2197 → W 170 t = vO C F k Uf t)) := by
  refine call_of (by decide +kernel) (by intro v hv; simp only [List.mem_cons, List.not_mem_nil, or_false] at hv; rcases hv with rfl | rfl | rfl <;> exact fun q => by cases q) (Nat.le_of_ble_eq_true rfl) ?_
  refine ev_lsE (ls' := [_, _, _, _, _, _, _, _]) rfl ?_
  have hQ : ∃ Q, Q = (Qx none K (fun W => fr4 V W ∧ (∀ t, 0 ≤ t ∧ t < 2197 → W 169 t = vF C F k Uo t) ∧ ∀ t, 0 ≤ t ∧ t < 2197 → W 170 t = vO C F k Uf t)) := ⟨_, rfl⟩
  obtain ⟨Q, hQ⟩ := hQ
  rw [← hQ]
  have ph2 : ∀ W, fr4 V W → (∀ t, 0 ≤ t ∧ t < 2197 → W 171 t = vF C F k Uo t) → (∀ t, 0 ≤ t ∧ t < 2197 → W 172 t = vO C F k Uf t) → Ev γ M_X12_oneMore 2 0 0 150 [vR 156, vI k, vI F, vU, vU, vU, vU, vU] [] K W Q := by
    intro W w1 w2 w3
    rw [hQ]
    refine ev_iconst (X := M_X12_oneMore) (pc := 150) dX12_oneMore_150 ?_
    refine ev_istore_nL (X := M_X12_oneMore) (pc := 151) (ls' := [_, _, _, _, _, _, _, _]) dX12_oneMore_151 (by decide) rfl ?_
    refine ev_weak (ev_while (σ := Int × Mm) (fun s => 0 ≤ s.1 ∧ s.1 ≤ 2197 ∧ fr4 V s.2 ∧ (∀ t, 0 ≤ t ∧ t < 2197 → s.2 171 t = vF C F k Uo t) ∧ (∀ t, 0 ≤ t ∧ t < 2197 → s.2 172 t = vO C F k Uf t) ∧ ∀ t, 0 ≤ t ∧ t < s.1 → s.2 169 t = vF C F k Uo t ∧ s.2 170 t = vO C F k Uf t) (fun s => (2197 - s.1).toNat) (fun s => [vR 156, vI k, vI F, vI s.1, vU, vU, vU, vU]) (fun _ => K) (fun s => s.2) ?_ (0, W) ⟨Int.le_refl 0, by show (0 : Int) ≤ 2197; decide, w1, w2, w3, fun t ht => by change 0 ≤ t ∧ t < 0 at ht; omega⟩) ⟨rfl, rfl, rfl, rfl, trivial⟩
    clear w1 w2 w3 W
    rintro ⟨s, W⟩ ⟨s0, s1, w1, w2, w3, w4⟩ ih
    dsimp only at s0 s1 w1 w2 w3 w4 ih ⊢
    have hv1 := (vF_i (C := C) (F := F) (k := k) (U := Uo) (s := s)).1
    have hv2 := (vO_i (C := C) (F := F) (k := k) (U := Uf) (s := s)).1
    refine ev_iload_n (X := M_X12_oneMore) (pc := 152) dX12_oneMore_152 rfl ?_
    refine ev_sipush (X := M_X12_oneMore) (pc := 153) dX12_oneMore_153 (by decide) ?_
    refine ev_icmp_ge (X := M_X12_oneMore) (pc := 156) (tgt := 189) dX12_oneMore_156 (by decide) (by omega) (by omega) (fun h156 => ?_) (fun h156 => ?_)
    · refine ev_vret (X := M_X12_oneMore) (pc := 189) dX12_oneMore_189 rfl ?_
      exact ⟨rfl, rfl, w1, fun t ht => (w4 t (by omega)).1, fun t ht => (w4 t (by omega)).2⟩
    · refine ev_aload_n (X := M_X12_oneMore) (pc := 159) dX12_oneMore_159 rfl ?_
      refine ev_getRe (X := M_X12_oneMore) (pc := 160) dX12_oneMore_160 fl_X12_48_12 (lO_156 hL) rfl (lR_156_19 hL) ?_
      refine ev_iload_n (X := M_X12_oneMore) (pc := 163) dX12_oneMore_163 rfl ?_
      refine ev_aload_n (X := M_X12_oneMore) (pc := 164) dX12_oneMore_164 rfl ?_
      refine ev_getRe (X := M_X12_oneMore) (pc := 165) dX12_oneMore_165 fl_X12_54_12 (lO_156 hL) rfl (lR_156_21 hL) ?_
      refine ev_iload_n (X := M_X12_oneMore) (pc := 168) dX12_oneMore_168 rfl ?_
      refine ev_zaloadE (X := M_X12_oneMore) (pc := 169) dX12_oneMore_169 (lS_171 hL) (by omega) (w2 s (by omega)) ?_
      refine ev_zastore (X := M_X12_oneMore) (pc := 170) dX12_oneMore_170 (by decide) (lS_169 hL) (by omega) (by exact hv1) ?_
      refine ev_aload_n (X := M_X12_oneMore) (pc := 171) dX12_oneMore_171 rfl ?_
      refine ev_getRe (X := M_X12_oneMore) (pc := 172) dX12_oneMore_172 fl_X12_51_12 (lO_156 hL) rfl (lR_156_20 hL) ?_
      refine ev_iload_n (X := M_X12_oneMore) (pc := 175) dX12_oneMore_175 rfl ?_
      refine ev_aload_n (X := M_X12_oneMore) (pc := 176) dX12_oneMore_176 rfl ?_
      refine ev_getRe (X := M_X12_oneMore) (pc := 177) dX12_oneMore_177 fl_X12_57_12 (lO_156 hL) rfl (lR_156_22 hL) ?_
      refine ev_iload_n (X := M_X12_oneMore) (pc := 180) dX12_oneMore_180 rfl ?_
      refine ev_zaloadE (X := M_X12_oneMore) (pc := 181) dX12_oneMore_181 (lS_172 hL) (by omega) ((congrFun (wr_off (by decide)) s).trans (w3 s (by omega))) ?_
      refine ev_zastore (X := M_X12_oneMore) (pc := 182) dX12_oneMore_182 (by decide) (lS_170 hL) (by omega) (by exact hv2) ?_
      refine ev_iincL (X := M_X12_oneMore) (pc := 183) (ls' := [_, _, _, _, _, _, _, _]) dX12_oneMore_183 rfl (by decide) rfl ?_
      refine ev_goto (X := M_X12_oneMore) (pc := 186) (tgt := 152) dX12_oneMore_186 (by decide) ?_
      refine ev_weak (ih (s + 1, wr (wr W 169 s (vF C F k Uo s)) 170 s (vO C F k Uf s)) ⟨by omega, by omega, (w1.w (by decide) _ _).w (by decide) _ _, fun t ht => ?_, fun t ht => ?_, fun t ht => ?_⟩ (by show (2197 - (s + 1)).toNat < (2197 - s).toNat; omega)) ⟨rfl, rfl, rfl, rfl, trivial⟩
      · show wr (wr W 169 s (vF C F k Uo s)) 170 s (vO C F k Uf s) 171 t = _
        rw [wr_off (by decide), wr_off (by decide)]
        exact w2 t ht
      · show wr (wr W 169 s (vF C F k Uo s)) 170 s (vO C F k Uf s) 172 t = _
        rw [wr_off (by decide), wr_off (by decide)]
        exact w3 t ht
      · show wr (wr W 169 s (vF C F k Uo s)) 170 s (vO C F k Uf s) 169 t = _ ∧ wr (wr W 169 s (vF C F k Uo s)) 170 s (vO C F k Uf s) 170 t = _
        change 0 ≤ t ∧ t < s + 1 at ht
        rw [wr_row, wr_off (show (169 : Nat) ≠ 170 by decide), wr_row, wr_off (show (170 : Nat) ≠ 169 by decide)]
        by_cases z : t = s
        · rw [z, up_self, up_self]
          exact ⟨rfl, rfl⟩
        · rw [up_ne z, up_ne z]
          exact w4 t (by omega)
  refine ev_iconst (X := M_X12_oneMore) (pc := 0) dX12_oneMore_0 ?_
  refine ev_istore_nL (X := M_X12_oneMore) (pc := 1) (ls' := [_, _, _, _, _, _, _, _]) dX12_oneMore_1 (by decide) rfl ?_
  refine ev_weak (ev_while (σ := Int × Mm) (fun s => 0 ≤ s.1 ∧ s.1 ≤ 2197 ∧ fr4 V s.2 ∧ s.2 169 = V 169 ∧ s.2 170 = V 170 ∧ ∀ t, 0 ≤ t ∧ t < s.1 → s.2 171 t = vF C F k Uo t ∧ s.2 172 t = vO C F k Uf t) (fun s => (2197 - s.1).toNat) (fun s => [vR 156, vI k, vI F, vI s.1, vU, vU, vU, vU]) (fun _ => K) (fun s => s.2) ?_ (0, V) ⟨Int.le_refl 0, by show (0 : Int) ≤ 2197; decide, fun _ _ => rfl, rfl, rfl, fun t ht => by change 0 ≤ t ∧ t < 0 at ht; omega⟩) ⟨rfl, rfl, rfl, rfl, trivial⟩
  rintro ⟨s, W⟩ ⟨s0, s1, w1, w2, w3, w4⟩ ih
  dsimp only at s0 s1 w1 w2 w3 w4 ih ⊢
  have hC2 : W 161 = C := by rw [w1 161 (by omega)]; exact hC1
  have f1 : ∀ t, 0 ≤ t ∧ t < 2197 → W 169 t = Uf t := by rw [w2]; exact hUf
  have f2 : ∀ t, 0 ≤ t ∧ t < 2197 → W 170 t = Uo t := by rw [w3]; exact hUo
  have hgo : ∀ x y, s < 2197 → x = vF C F k Uo s → y = vO C F k Uf s → Ev γ M_X12_oneMore 2 0 0 2 [vR 156, vI k, vI F, vI (s + 1), vU, vU, vU, vU] [] K (wr (wr W 171 s x) 172 s y) Q := fun x y hs hx hy => by
    refine ih (s + 1, wr (wr W 171 s x) 172 s y) ⟨by omega, by omega, (w1.w (by decide) _ _).w (by decide) _ _, ?_, ?_, fun t ht => ?_⟩ (by show (2197 - (s + 1)).toNat < (2197 - s).toNat; omega)
    · show wr (wr W 171 s x) 172 s y 169 = _
      rw [wr_off (by decide), wr_off (by decide)]
      exact w2
    · show wr (wr W 171 s x) 172 s y 170 = _
      rw [wr_off (by decide), wr_off (by decide)]
      exact w3
    · show wr (wr W 171 s x) 172 s y 171 t = _ ∧ wr (wr W 171 s x) 172 s y 172 t = _
      change 0 ≤ t ∧ t < s + 1 at ht
      rw [wr_row, wr_off (show (171 : Nat) ≠ 172 by decide), wr_row, wr_off (show (172 : Nat) ≠ 171 by decide)]
      by_cases z : t = s
      · rw [z, up_self, up_self, hx, hy]
        exact ⟨rfl, rfl⟩
      · rw [up_ne z, up_ne z]
        exact w4 t (by omega)
  clear ih
  refine ev_iload_n (X := M_X12_oneMore) (pc := 2) dX12_oneMore_2 rfl ?_
  refine ev_sipush (X := M_X12_oneMore) (pc := 3) dX12_oneMore_3 (by decide) ?_
  refine ev_icmp_ge (X := M_X12_oneMore) (pc := 6) (tgt := 150) dX12_oneMore_6 (by decide) (by omega) (by omega) (fun h6 => ?_) (fun h6 => ?_)
  · exact ev_weak (ph2 W w1 (fun t ht => (w4 t (by omega)).1) (fun t ht => (w4 t (by omega)).2)) ⟨rfl, rfl, rfl, trivial⟩
  · have hs7 : 0 ≤ s ∧ s < 2197 := by omega
    have hgo := fun x y => hgo x y hs7.2
    refine ev_iconst (X := M_X12_oneMore) (pc := 9) dX12_oneMore_9 ?_
    refine ev_istoreL (X := M_X12_oneMore) (pc := 10) (ls' := [_, _, _, _, _, _, _, _]) dX12_oneMore_10 (by decide) rfl ?_
    refine ev_iconst (X := M_X12_oneMore) (pc := 12) dX12_oneMore_12 ?_
    refine ev_istoreL (X := M_X12_oneMore) (pc := 13) (ls' := [_, _, _, _, _, _, _, _]) dX12_oneMore_13 (by decide) rfl ?_
    refine ev_iconst (X := M_X12_oneMore) (pc := 15) dX12_oneMore_15 ?_
    refine ev_istoreL (X := M_X12_oneMore) (pc := 16) (ls' := [_, _, _, _, _, _, _, _]) dX12_oneMore_16 (by decide) rfl ?_
    refine ev_iconst (X := M_X12_oneMore) (pc := 18) dX12_oneMore_18 ?_
    refine ev_istoreL (X := M_X12_oneMore) (pc := 19) (ls' := [_, _, _, _, _, _, _, _]) dX12_oneMore_19 (by decide) rfl ?_
    clear w4 w2 w3 ph2 hUf hUo
    refine ev_weak (ev_while (σ := Int × Int × Int × Int) (fun z => 0 ≤ z.1 ∧ z.1 ≤ 6 ∧ (z.2.1 = 0 ∨ z.2.1 = 1) ∧ (z.2.1 = 1 ↔ (isSt s ∧ hx C F o1 s z.1)) ∧ (z.2.2.1 = 0 ∨ z.2.2.1 = 1) ∧ (z.2.2.1 = 1 ↔ (isSt s ∧ hx C F Uo s z.1)) ∧ (z.2.2.2 = 0 ∨ z.2.2.2 = 1) ∧ (isSt s → (z.2.2.2 = 1 ↔ ¬ hx C F (nt Uf) s z.1))) (fun z => (6 - z.1).toNat) (fun z => [vR 156, vI k, vI F, vI s, vI z.2.1, vI z.2.2.1, vI z.2.2.2, vI z.1]) (fun _ => K) (fun _ => W) ?_ (0, 0, 0, 1) ⟨Int.le_refl 0, by show (0 : Int) ≤ 6; decide, Or.inl rfl, ⟨fun y => absurd y (by show ¬ (0 : Int) = 1; decide), fun y => absurd y.2 hx_0⟩, Or.inl rfl, ⟨fun y => absurd y (by show ¬ (0 : Int) = 1; decide), fun y => absurd y.2 hx_0⟩, Or.inr rfl, fun _ => ⟨fun _ => hx_0, fun _ => rfl⟩⟩) ⟨rfl, rfl, rfl, rfl, rfl, rfl, rfl, rfl, trivial⟩
    rintro ⟨p, an, so, al⟩ ⟨p0, p1, an1, an2, so1, so2, al1, al2⟩ ih2
    dsimp only at p0 p1 an1 an2 so1 so2 al1 al2 ih2 ⊢
    have an_r : R32 an := by rcases an1 with z | z <;> rw [z] <;> decide
    have so_r : R32 so := by rcases so1 with z | z <;> rw [z] <;> decide
    have al_r : R32 al := by rcases al1 with z | z <;> rw [z] <;> decide
    have he := eD_i (k := k) (s := s)
    have he1 := he.1
    have e_r : R32 (eD k s) := by rcases he1 with z | z <;> rw [z] <;> decide
    have pm : p < 6 → (0 ≤ p + 1 ∧ p + 1 ≤ 6) ∧ (6 - (p + 1)).toNat < (6 - p).toNat := fun z => by omega
    have p6 : ¬ p < 6 → p = 6 := fun z => by omega
    have hend : (p = 6 ∨ ¬ isSt s) → Ev γ M_X12_oneMore 2 0 0 89 [vR 156, vI k, vI F, vI s, vI an, vI so, vI al, vU] [] K W Q := fun hd => by
      have vf := vF_i (C := C) (F := F) (k := k) (U := Uo) (s := s)
      have vo := vO_i (C := C) (F := F) (k := k) (U := Uf) (s := s)
      have so3 : so = 1 ↔ (isSt s ∧ hx C F Uo s 6) := by
        rcases hd with z | z
        · rw [← z]; exact so2
        · exact ⟨fun y => absurd (so2.mp y).1 z, fun y => absurd y.1 z⟩
      have an3 : an = 1 ↔ (isSt s ∧ hx C F o1 s 6) := by
        rcases hd with z | z
        · rw [← z]; exact an2
        · exact ⟨fun y => absurd (an2.mp y).1 z, fun y => absurd y.1 z⟩
      have al3 : isSt s → (al = 1 ↔ ¬ hx C F (nt Uf) s 6) := fun y => by
        rcases hd with z | z
        · rw [← z]; exact al2 y
        · exact absurd y z
      clear so2 an2 al2 ih2
      have k1 : eD k s = 1 → (1 : Int) = vF C F k Uo s := fun z => eq01 (Or.inr rfl) vf.1 ⟨fun _ => vf.2.mpr (Or.inl z), fun _ => rfl⟩
      have k2 : so = 1 → (1 : Int) = vF C F k Uo s := fun z => eq01 (Or.inr rfl) vf.1 ⟨fun _ => vf.2.mpr (Or.inr (so3.mp z)), fun _ => rfl⟩
      have k3 : eD k s = 0 → so = 0 → (0 : Int) = vF C F k Uo s := fun z w => eq01 (Or.inl rfl) vf.1 ⟨fun y => absurd y (by decide), fun y => by
        rcases vf.2.mp y with q | q
        · rw [z] at q; exact absurd q (by decide)
        · have := so3.mpr q; rw [w] at this; exact absurd this (by decide)⟩
      have m1 : eD k s = 1 → (1 : Int) = vO C F k Uf s := fun z => eq01 (Or.inr rfl) vo.1 ⟨fun _ => vo.2.mpr (Or.inl z), fun _ => rfl⟩
      have m2 : an = 1 → al = 1 → (1 : Int) = vO C F k Uf s := fun z w => eq01 (Or.inr rfl) vo.1 ⟨fun _ => vo.2.mpr (Or.inr ⟨(an3.mp z).1, (an3.mp z).2, (al3 (an3.mp z).1).mp w⟩), fun _ => rfl⟩
      have m3 : eD k s = 0 → an = 0 → (0 : Int) = vO C F k Uf s := fun z w => eq01 (Or.inl rfl) vo.1 ⟨fun y => absurd y (by decide), fun y => by
        rcases vo.2.mp y with q | q
        · rw [z] at q; exact absurd q (by decide)
        · have := an3.mpr ⟨q.1, q.2.1⟩; rw [w] at this; exact absurd this (by decide)⟩
      have m4 : eD k s = 0 → al = 0 → (0 : Int) = vO C F k Uf s := fun z w => eq01 (Or.inl rfl) vo.1 ⟨fun y => absurd y (by decide), fun y => by
        rcases vo.2.mp y with q | q
        · rw [z] at q; exact absurd q (by decide)
        · have := (al3 q.1).mpr q.2.2; rw [w] at this; exact absurd this (by decide)⟩
      clear so3 an3 al3 vf vo hd he
      refine ev_aload_n (X := M_X12_oneMore) (pc := 89) dX12_oneMore_89 rfl ?_
      refine ev_getRe (X := M_X12_oneMore) (pc := 90) dX12_oneMore_90 fl_X12_54_12 (lO_156 hL) rfl (lR_156_21 hL) ?_
      refine ev_iload_n (X := M_X12_oneMore) (pc := 93) dX12_oneMore_93 rfl ?_
      refine ev_aload_n (X := M_X12_oneMore) (pc := 94) dX12_oneMore_94 rfl ?_
      refine ev_iload_n (X := M_X12_oneMore) (pc := 95) dX12_oneMore_95 rfl ?_
      refine ev_iload_n (X := M_X12_oneMore) (pc := 96) dX12_oneMore_96 rfl ?_
      refine ev_virtR (X := M_X12_oneMore) (Y := M_X12_isEnd) (pc := 97) (ci := 12) dX12_oneMore_97 mk_X12_isEnd rfl kw_1340 kw_1342 kp_35 (lO_156 hL) (m_isEndE hs7 hk) rfl (by decide) rfl (Nat.le_of_ble_eq_true rfl) (Nat.zero_add _) (Nat.zero_add _) ?_
      refine ev_if_ne (X := M_X12_oneMore) (pc := 100) (tgt := 108) dX12_oneMore_100 (by decide) (by exact e_r) (fun h100 => ?_) (fun h100 => ?_)
      · have hx1 := k1 (he1.resolve_left h100)
        refine ev_iconst (X := M_X12_oneMore) (pc := 108) dX12_oneMore_108 ?_
        refine ev_goto (X := M_X12_oneMore) (pc := 109) (tgt := 113) dX12_oneMore_109 (by decide) ?_
        refine ev_zastore (X := M_X12_oneMore) (pc := 113) dX12_oneMore_113 (by decide) (lS_171 hL) (by exact hs7) (by decide) ?_
        refine ev_aload_n (X := M_X12_oneMore) (pc := 114) dX12_oneMore_114 rfl ?_
        refine ev_getRe (X := M_X12_oneMore) (pc := 115) dX12_oneMore_115 fl_X12_57_12 (lO_156 hL) rfl (lR_156_22 hL) ?_
        refine ev_iload_n (X := M_X12_oneMore) (pc := 118) dX12_oneMore_118 rfl ?_
        refine ev_aload_n (X := M_X12_oneMore) (pc := 119) dX12_oneMore_119 rfl ?_
        refine ev_iload_n (X := M_X12_oneMore) (pc := 120) dX12_oneMore_120 rfl ?_
        refine ev_iload_n (X := M_X12_oneMore) (pc := 121) dX12_oneMore_121 rfl ?_
        refine ev_virtR (X := M_X12_oneMore) (Y := M_X12_isEnd) (pc := 122) (ci := 12) dX12_oneMore_122 mk_X12_isEnd rfl kw_1340 kw_1342 kp_35 (lO_156 hL) (m_isEndE hs7 hk) rfl (by decide) rfl (Nat.le_of_ble_eq_true rfl) (Nat.zero_add _) (Nat.zero_add _) ?_
        refine ev_if_ne (X := M_X12_oneMore) (pc := 125) (tgt := 138) dX12_oneMore_125 (by decide) (by exact e_r) (fun h125 => ?_) (fun h125 => ?_)
        · have hy1 := m1 (he1.resolve_left h125)
          refine ev_iconst (X := M_X12_oneMore) (pc := 138) dX12_oneMore_138 ?_
          refine ev_goto (X := M_X12_oneMore) (pc := 139) (tgt := 143) dX12_oneMore_139 (by decide) ?_
          refine ev_zastore (X := M_X12_oneMore) (pc := 143) dX12_oneMore_143 (by decide) (lS_172 hL) (by exact hs7) (by decide) ?_
          refine ev_iincL (X := M_X12_oneMore) (pc := 144) (ls' := [_, _, _, _, _, _, _, _]) dX12_oneMore_144 rfl (by decide) rfl ?_
          refine ev_goto (X := M_X12_oneMore) (pc := 147) (tgt := 2) dX12_oneMore_147 (by decide) ?_
          exact ev_weak (hgo _ _ hx1 hy1) ⟨rfl, rfl, rfl, rfl, trivial⟩
        · refine ev_iload (X := M_X12_oneMore) (pc := 128) dX12_oneMore_128 rfl ?_
          refine ev_if_eq (X := M_X12_oneMore) (pc := 130) (tgt := 142) dX12_oneMore_130 (by decide) (by exact an_r) (fun h130 => ?_) (fun h130 => ?_)
          · have hy1 := m3 h125 h130
            refine ev_iconst (X := M_X12_oneMore) (pc := 142) dX12_oneMore_142 ?_
            refine ev_zastore (X := M_X12_oneMore) (pc := 143) dX12_oneMore_143 (by decide) (lS_172 hL) (by exact hs7) (by decide) ?_
            refine ev_iincL (X := M_X12_oneMore) (pc := 144) (ls' := [_, _, _, _, _, _, _, _]) dX12_oneMore_144 rfl (by decide) rfl ?_
            refine ev_goto (X := M_X12_oneMore) (pc := 147) (tgt := 2) dX12_oneMore_147 (by decide) ?_
            exact ev_weak (hgo _ _ hx1 hy1) ⟨rfl, rfl, rfl, rfl, trivial⟩
          · refine ev_iload (X := M_X12_oneMore) (pc := 133) dX12_oneMore_133 rfl ?_
            refine ev_if_eq (X := M_X12_oneMore) (pc := 135) (tgt := 142) dX12_oneMore_135 (by decide) (by exact al_r) (fun h135 => ?_) (fun h135 => ?_)
            · have hy1 := m4 h125 h135
              refine ev_iconst (X := M_X12_oneMore) (pc := 142) dX12_oneMore_142 ?_
              refine ev_zastore (X := M_X12_oneMore) (pc := 143) dX12_oneMore_143 (by decide) (lS_172 hL) (by exact hs7) (by decide) ?_
              refine ev_iincL (X := M_X12_oneMore) (pc := 144) (ls' := [_, _, _, _, _, _, _, _]) dX12_oneMore_144 rfl (by decide) rfl ?_
              refine ev_goto (X := M_X12_oneMore) (pc := 147) (tgt := 2) dX12_oneMore_147 (by decide) ?_
              exact ev_weak (hgo _ _ hx1 hy1) ⟨rfl, rfl, rfl, rfl, trivial⟩
            · have hy1 := m2 (an1.resolve_left h130) (al1.resolve_left h135)
              refine ev_iconst (X := M_X12_oneMore) (pc := 138) dX12_oneMore_138 ?_
              refine ev_goto (X := M_X12_oneMore) (pc := 139) (tgt := 143) dX12_oneMore_139 (by decide) ?_
              refine ev_zastore (X := M_X12_oneMore) (pc := 143) dX12_oneMore_143 (by decide) (lS_172 hL) (by exact hs7) (by decide) ?_
              refine ev_iincL (X := M_X12_oneMore) (pc := 144) (ls' := [_, _, _, _, _, _, _, _]) dX12_oneMore_144 rfl (by decide) rfl ?_
              refine ev_goto (X := M_X12_oneMore) (pc := 147) (tgt := 2) dX12_oneMore_147 (by decide) ?_
              exact ev_weak (hgo _ _ hx1 hy1) ⟨rfl, rfl, rfl, rfl, trivial⟩
      · refine ev_iload (X := M_X12_oneMore) (pc := 103) dX12_oneMore_103 rfl ?_
        refine ev_if_eq (X := M_X12_oneMore) (pc := 105) (tgt := 112) dX12_oneMore_105 (by decide) (by exact so_r) (fun h105 => ?_) (fun h105 => ?_)
        · have hx1 := k3 h100 h105
          refine ev_iconst (X := M_X12_oneMore) (pc := 112) dX12_oneMore_112 ?_
          refine ev_zastore (X := M_X12_oneMore) (pc := 113) dX12_oneMore_113 (by decide) (lS_171 hL) (by exact hs7) (by decide) ?_
          refine ev_aload_n (X := M_X12_oneMore) (pc := 114) dX12_oneMore_114 rfl ?_
          refine ev_getRe (X := M_X12_oneMore) (pc := 115) dX12_oneMore_115 fl_X12_57_12 (lO_156 hL) rfl (lR_156_22 hL) ?_
          refine ev_iload_n (X := M_X12_oneMore) (pc := 118) dX12_oneMore_118 rfl ?_
          refine ev_aload_n (X := M_X12_oneMore) (pc := 119) dX12_oneMore_119 rfl ?_
          refine ev_iload_n (X := M_X12_oneMore) (pc := 120) dX12_oneMore_120 rfl ?_
          refine ev_iload_n (X := M_X12_oneMore) (pc := 121) dX12_oneMore_121 rfl ?_
          refine ev_virtR (X := M_X12_oneMore) (Y := M_X12_isEnd) (pc := 122) (ci := 12) dX12_oneMore_122 mk_X12_isEnd rfl kw_1340 kw_1342 kp_35 (lO_156 hL) (m_isEndE hs7 hk) rfl (by decide) rfl (Nat.le_of_ble_eq_true rfl) (Nat.zero_add _) (Nat.zero_add _) ?_
          refine ev_if_ne (X := M_X12_oneMore) (pc := 125) (tgt := 138) dX12_oneMore_125 (by decide) (by exact e_r) (fun h125 => ?_) (fun h125 => ?_)
          · have hy1 := m1 (he1.resolve_left h125)
            refine ev_iconst (X := M_X12_oneMore) (pc := 138) dX12_oneMore_138 ?_
            refine ev_goto (X := M_X12_oneMore) (pc := 139) (tgt := 143) dX12_oneMore_139 (by decide) ?_
            refine ev_zastore (X := M_X12_oneMore) (pc := 143) dX12_oneMore_143 (by decide) (lS_172 hL) (by exact hs7) (by decide) ?_
            refine ev_iincL (X := M_X12_oneMore) (pc := 144) (ls' := [_, _, _, _, _, _, _, _]) dX12_oneMore_144 rfl (by decide) rfl ?_
            refine ev_goto (X := M_X12_oneMore) (pc := 147) (tgt := 2) dX12_oneMore_147 (by decide) ?_
            exact ev_weak (hgo _ _ hx1 hy1) ⟨rfl, rfl, rfl, rfl, trivial⟩
          · refine ev_iload (X := M_X12_oneMore) (pc := 128) dX12_oneMore_128 rfl ?_
            refine ev_if_eq (X := M_X12_oneMore) (pc := 130) (tgt := 142) dX12_oneMore_130 (by decide) (by exact an_r) (fun h130 => ?_) (fun h130 => ?_)
            · have hy1 := m3 h125 h130
              refine ev_iconst (X := M_X12_oneMore) (pc := 142) dX12_oneMore_142 ?_
              refine ev_zastore (X := M_X12_oneMore) (pc := 143) dX12_oneMore_143 (by decide) (lS_172 hL) (by exact hs7) (by decide) ?_
              refine ev_iincL (X := M_X12_oneMore) (pc := 144) (ls' := [_, _, _, _, _, _, _, _]) dX12_oneMore_144 rfl (by decide) rfl ?_
              refine ev_goto (X := M_X12_oneMore) (pc := 147) (tgt := 2) dX12_oneMore_147 (by decide) ?_
              exact ev_weak (hgo _ _ hx1 hy1) ⟨rfl, rfl, rfl, rfl, trivial⟩
            · refine ev_iload (X := M_X12_oneMore) (pc := 133) dX12_oneMore_133 rfl ?_
              refine ev_if_eq (X := M_X12_oneMore) (pc := 135) (tgt := 142) dX12_oneMore_135 (by decide) (by exact al_r) (fun h135 => ?_) (fun h135 => ?_)
              · have hy1 := m4 h125 h135
                refine ev_iconst (X := M_X12_oneMore) (pc := 142) dX12_oneMore_142 ?_
                refine ev_zastore (X := M_X12_oneMore) (pc := 143) dX12_oneMore_143 (by decide) (lS_172 hL) (by exact hs7) (by decide) ?_
                refine ev_iincL (X := M_X12_oneMore) (pc := 144) (ls' := [_, _, _, _, _, _, _, _]) dX12_oneMore_144 rfl (by decide) rfl ?_
                refine ev_goto (X := M_X12_oneMore) (pc := 147) (tgt := 2) dX12_oneMore_147 (by decide) ?_
                exact ev_weak (hgo _ _ hx1 hy1) ⟨rfl, rfl, rfl, rfl, trivial⟩
              · have hy1 := m2 (an1.resolve_left h130) (al1.resolve_left h135)
                refine ev_iconst (X := M_X12_oneMore) (pc := 138) dX12_oneMore_138 ?_
                refine ev_goto (X := M_X12_oneMore) (pc := 139) (tgt := 143) dX12_oneMore_139 (by decide) ?_
                refine ev_zastore (X := M_X12_oneMore) (pc := 143) dX12_oneMore_143 (by decide) (lS_172 hL) (by exact hs7) (by decide) ?_
                refine ev_iincL (X := M_X12_oneMore) (pc := 144) (ls' := [_, _, _, _, _, _, _, _]) dX12_oneMore_144 rfl (by decide) rfl ?_
                refine ev_goto (X := M_X12_oneMore) (pc := 147) (tgt := 2) dX12_oneMore_147 (by decide) ?_
                exact ev_weak (hgo _ _ hx1 hy1) ⟨rfl, rfl, rfl, rfl, trivial⟩
        · have hx1 := k2 (so1.resolve_left h105)
          refine ev_iconst (X := M_X12_oneMore) (pc := 108) dX12_oneMore_108 ?_
          refine ev_goto (X := M_X12_oneMore) (pc := 109) (tgt := 113) dX12_oneMore_109 (by decide) ?_
          refine ev_zastore (X := M_X12_oneMore) (pc := 113) dX12_oneMore_113 (by decide) (lS_171 hL) (by exact hs7) (by decide) ?_
          refine ev_aload_n (X := M_X12_oneMore) (pc := 114) dX12_oneMore_114 rfl ?_
          refine ev_getRe (X := M_X12_oneMore) (pc := 115) dX12_oneMore_115 fl_X12_57_12 (lO_156 hL) rfl (lR_156_22 hL) ?_
          refine ev_iload_n (X := M_X12_oneMore) (pc := 118) dX12_oneMore_118 rfl ?_
          refine ev_aload_n (X := M_X12_oneMore) (pc := 119) dX12_oneMore_119 rfl ?_
          refine ev_iload_n (X := M_X12_oneMore) (pc := 120) dX12_oneMore_120 rfl ?_
          refine ev_iload_n (X := M_X12_oneMore) (pc := 121) dX12_oneMore_121 rfl ?_
          refine ev_virtR (X := M_X12_oneMore) (Y := M_X12_isEnd) (pc := 122) (ci := 12) dX12_oneMore_122 mk_X12_isEnd rfl kw_1340 kw_1342 kp_35 (lO_156 hL) (m_isEndE hs7 hk) rfl (by decide) rfl (Nat.le_of_ble_eq_true rfl) (Nat.zero_add _) (Nat.zero_add _) ?_
          refine ev_if_ne (X := M_X12_oneMore) (pc := 125) (tgt := 138) dX12_oneMore_125 (by decide) (by exact e_r) (fun h125 => ?_) (fun h125 => ?_)
          · have hy1 := m1 (he1.resolve_left h125)
            refine ev_iconst (X := M_X12_oneMore) (pc := 138) dX12_oneMore_138 ?_
            refine ev_goto (X := M_X12_oneMore) (pc := 139) (tgt := 143) dX12_oneMore_139 (by decide) ?_
            refine ev_zastore (X := M_X12_oneMore) (pc := 143) dX12_oneMore_143 (by decide) (lS_172 hL) (by exact hs7) (by decide) ?_
            refine ev_iincL (X := M_X12_oneMore) (pc := 144) (ls' := [_, _, _, _, _, _, _, _]) dX12_oneMore_144 rfl (by decide) rfl ?_
            refine ev_goto (X := M_X12_oneMore) (pc := 147) (tgt := 2) dX12_oneMore_147 (by decide) ?_
            exact ev_weak (hgo _ _ hx1 hy1) ⟨rfl, rfl, rfl, rfl, trivial⟩
          · refine ev_iload (X := M_X12_oneMore) (pc := 128) dX12_oneMore_128 rfl ?_
            refine ev_if_eq (X := M_X12_oneMore) (pc := 130) (tgt := 142) dX12_oneMore_130 (by decide) (by exact an_r) (fun h130 => ?_) (fun h130 => ?_)
            · have hy1 := m3 h125 h130
              refine ev_iconst (X := M_X12_oneMore) (pc := 142) dX12_oneMore_142 ?_
              refine ev_zastore (X := M_X12_oneMore) (pc := 143) dX12_oneMore_143 (by decide) (lS_172 hL) (by exact hs7) (by decide) ?_
              refine ev_iincL (X := M_X12_oneMore) (pc := 144) (ls' := [_, _, _, _, _, _, _, _]) dX12_oneMore_144 rfl (by decide) rfl ?_
              refine ev_goto (X := M_X12_oneMore) (pc := 147) (tgt := 2) dX12_oneMore_147 (by decide) ?_
              exact ev_weak (hgo _ _ hx1 hy1) ⟨rfl, rfl, rfl, rfl, trivial⟩
            · refine ev_iload (X := M_X12_oneMore) (pc := 133) dX12_oneMore_133 rfl ?_
              refine ev_if_eq (X := M_X12_oneMore) (pc := 135) (tgt := 142) dX12_oneMore_135 (by decide) (by exact al_r) (fun h135 => ?_) (fun h135 => ?_)
              · have hy1 := m4 h125 h135
                refine ev_iconst (X := M_X12_oneMore) (pc := 142) dX12_oneMore_142 ?_
                refine ev_zastore (X := M_X12_oneMore) (pc := 143) dX12_oneMore_143 (by decide) (lS_172 hL) (by exact hs7) (by decide) ?_
                refine ev_iincL (X := M_X12_oneMore) (pc := 144) (ls' := [_, _, _, _, _, _, _, _]) dX12_oneMore_144 rfl (by decide) rfl ?_
                refine ev_goto (X := M_X12_oneMore) (pc := 147) (tgt := 2) dX12_oneMore_147 (by decide) ?_
                exact ev_weak (hgo _ _ hx1 hy1) ⟨rfl, rfl, rfl, rfl, trivial⟩
              · have hy1 := m2 (an1.resolve_left h130) (al1.resolve_left h135)
                refine ev_iconst (X := M_X12_oneMore) (pc := 138) dX12_oneMore_138 ?_
                refine ev_goto (X := M_X12_oneMore) (pc := 139) (tgt := 143) dX12_oneMore_139 (by decide) ?_
                refine ev_zastore (X := M_X12_oneMore) (pc := 143) dX12_oneMore_143 (by decide) (lS_172 hL) (by exact hs7) (by decide) ?_
                refine ev_iincL (X := M_X12_oneMore) (pc := 144) (ls' := [_, _, _, _, _, _, _, _]) dX12_oneMore_144 rfl (by decide) rfl ?_
                refine ev_goto (X := M_X12_oneMore) (pc := 147) (tgt := 2) dX12_oneMore_147 (by decide) ?_
                exact ev_weak (hgo _ _ hx1 hy1) ⟨rfl, rfl, rfl, rfl, trivial⟩
    refine ev_iload (X := M_X12_oneMore) (pc := 21) dX12_oneMore_21 rfl ?_
    refine ev_bipush (X := M_X12_oneMore) (pc := 23) dX12_oneMore_23 (by decide) ?_
    refine ev_icmp_ge (X := M_X12_oneMore) (pc := 25) (tgt := 89) dX12_oneMore_25 (by decide) (by omega) (by decide) (fun h25 => ?_) (fun h25 => ?_)
    · first
        | exact ev_weak (hend (Or.inl (p6 (Int.not_lt.mpr h25)))) ⟨rfl, rfl, rfl, rfl, rfl, rfl, rfl, trivial⟩
        | exact ev_weak (hend (Or.inr (fun z => by rw [if_pos z] at h32; exact absurd h32 (by decide)))) ⟨rfl, rfl, rfl, rfl, rfl, rfl, rfl, trivial⟩
    · refine ev_iload_n (X := M_X12_oneMore) (pc := 28) dX12_oneMore_28 rfl ?_
      refine ev_staticR (X := M_X12_oneMore) (Y := M_X12_isState) (pc := 29) dX12_oneMore_29 mk_X12_isState kw_1284 kw_1285 (m_isState (by omega)) rfl (by decide) rfl (Nat.le_of_ble_eq_true rfl) (Nat.zero_add _) (Nat.zero_add _) ?_
      refine ev_if_eq (X := M_X12_oneMore) (pc := 32) (tgt := 89) dX12_oneMore_32 (by decide) (by split <;> decide) (fun h32 => ?_) (fun h32 => ?_)
      · first
          | exact ev_weak (hend (Or.inl (p6 (Int.not_lt.mpr h25)))) ⟨rfl, rfl, rfl, rfl, rfl, rfl, rfl, trivial⟩
          | exact ev_weak (hend (Or.inr (fun z => by rw [if_pos z] at h32; exact absurd h32 (by decide)))) ⟨rfl, rfl, rfl, rfl, rfl, rfl, rfl, trivial⟩
      · have hst : isSt s := Decidable.byContradiction fun z => h32 (by rw [if_neg z])
        have hp6 : p < 6 := Int.not_le.mp h25
        have hpp : 0 ≤ p ∧ p < 6 := ⟨p0, hp6⟩
        obtain ⟨pm1, pm2⟩ := pm hp6
        have e1 := hx_s (C := C) (F := F) (U := Uo) (s := s) p0
        have e2 := hx_s (C := C) (F := F) (U := o1) (s := s) p0
        have e3 := hx_s (C := C) (F := F) (U := nt Uf) (s := s) p0
        refine ev_aload_n (X := M_X12_oneMore) (pc := 35) dX12_oneMore_35 rfl ?_
        refine ev_iload_n (X := M_X12_oneMore) (pc := 36) dX12_oneMore_36 rfl ?_
        refine ev_iload (X := M_X12_oneMore) (pc := 37) dX12_oneMore_37 rfl ?_
        refine ev_iload_n (X := M_X12_oneMore) (pc := 39) dX12_oneMore_39 rfl ?_
        refine ev_virtR (X := M_X12_oneMore) (Y := M_X12_mayMeet) (pc := 40) (ci := 12) dX12_oneMore_40 mk_X12_mayMeet rfl kw_1219 kw_1221 kp_23 (lO_156 hL) (m_mayMeet hL hC hC2 hpp hs7 hF6) rfl (by decide) rfl (Nat.le_of_ble_eq_true rfl) (Nat.zero_add _) (Nat.zero_add _) ?_
        refine ev_if_eq (X := M_X12_oneMore) (pc := 43) (tgt := 83) dX12_oneMore_43 (by decide) (by split <;> decide) (fun h43 => ?_) (fun h43 => ?_)
        · have hm : ¬ may C F s p := fun z => by rw [if_pos z] at h43; exact absurd h43 (by decide)
          have hn : nx C F s p = -1 := by unfold nx; rw [if_neg hm]
          have q1 : so = 1 ↔ (isSt s ∧ hx C F Uo s (p + 1)) := by rw [e1, so2]; exact ⟨fun z => ⟨z.1, Or.inl z.2⟩, fun z => ⟨z.1, z.2.resolve_right (fun y => y.1 hn)⟩⟩
          have q2 : an = 1 ↔ (isSt s ∧ hx C F o1 s (p + 1)) := by rw [e2, an2]; exact ⟨fun z => ⟨z.1, Or.inl z.2⟩, fun z => ⟨z.1, z.2.resolve_right (fun y => y.1 hn)⟩⟩
          have q3 : isSt s → (al = 1 ↔ ¬ hx C F (nt Uf) s (p + 1)) := fun y => by rw [e3, al2 y]; exact ⟨fun z y => z (y.resolve_right (fun y => y.1 hn)), fun z y => z (Or.inl y)⟩
          have hg2 := ih2 (p + 1, an, so, al) ⟨pm1.1, pm1.2, an1, q2, so1, q1, al1, q3⟩ pm2
          refine ev_iincL (X := M_X12_oneMore) (pc := 83) (ls' := [_, _, _, _, _, _, _, _]) dX12_oneMore_83 rfl (by decide) rfl ?_
          refine ev_goto (X := M_X12_oneMore) (pc := 86) (tgt := 21) dX12_oneMore_86 (by decide) ?_
          exact ev_weak hg2 ⟨rfl, rfl, rfl, rfl, rfl, rfl, rfl, rfl, trivial⟩
        · have hm : may C F s p := Decidable.byContradiction fun z => h43 (by rw [if_neg z])
          have hnx : nx C F s p = aft C s p := by unfold nx; rw [if_pos hm]
          have hn := (nx_ne (F := F) hC hpp hst).mpr hm
          have hns := nx_st hC hpp hst hn
          rw [hnx] at hns
          have hnsl := isSt_lt hns
          have c1 := hf01 (aft C s p)
          have c2 := ho01 (aft C s p)
          obtain ⟨a1, a2⟩ := ior01 so1 c2
          obtain ⟨b1, b2⟩ := iand01 al1 c1
          have q1 : op_ior so (Uo (aft C s p)) = 1 ↔ (isSt s ∧ hx C F Uo s (p + 1)) := by
            rw [a2, e1, so2, ← hnx]
            exact ⟨fun z => ⟨hst, z.elim (fun w => Or.inl w.2) (fun w => Or.inr ⟨hn, w⟩)⟩, fun z => z.2.elim (fun w => Or.inl ⟨hst, w⟩) (fun w => Or.inr w.2)⟩
          have q2 : (1 : Int) = 1 ↔ (isSt s ∧ hx C F o1 s (p + 1)) := by
            rw [e2]
            exact ⟨fun _ => ⟨hst, Or.inr ⟨hn, rfl⟩⟩, fun _ => rfl⟩
          have q3 : isSt s → (op_iand al (Uf (aft C s p)) = 1 ↔ ¬ hx C F (nt Uf) s (p + 1)) := fun y => by
            rw [b2, e3, al2 y]
            have hnt : hitP C F (nt Uf) s p ↔ ¬ Uf (aft C s p) = 1 := by
              constructor
              · intro z w; have := z.2; rw [hnx] at this; change 1 - Uf (aft C s p) = 1 at this; rw [w] at this; exact absurd this (by decide)
              · intro z; refine ⟨hn, ?_⟩; rw [hnx]; show 1 - Uf (aft C s p) = 1; rw [c1.resolve_right z]; rfl
            rw [hnt]
            constructor
            · rintro ⟨z, w⟩ (y | y)
              · exact z y
              · exact y w
            · intro z
              exact ⟨fun y => z (Or.inl y), Decidable.byContradiction fun y => z (Or.inr y)⟩
          have hg2 := ih2 (p + 1, 1, op_ior so (Uo (aft C s p)), op_iand al (Uf (aft C s p))) ⟨pm1.1, pm1.2, Or.inr rfl, q2, a1, q1, b1, q3⟩ pm2
          refine ev_iconst (X := M_X12_oneMore) (pc := 46) dX12_oneMore_46 ?_
          refine ev_istoreL (X := M_X12_oneMore) (pc := 47) (ls' := [_, _, _, _, _, _, _, _]) dX12_oneMore_47 (by decide) rfl ?_
          refine ev_iload (X := M_X12_oneMore) (pc := 49) dX12_oneMore_49 rfl ?_
          refine ev_aload_n (X := M_X12_oneMore) (pc := 51) dX12_oneMore_51 rfl ?_
          refine ev_getRe (X := M_X12_oneMore) (pc := 52) dX12_oneMore_52 fl_X12_51_12 (lO_156 hL) rfl (lR_156_20 hL) ?_
          refine ev_aload_n (X := M_X12_oneMore) (pc := 55) dX12_oneMore_55 rfl ?_
          refine ev_iload_n (X := M_X12_oneMore) (pc := 56) dX12_oneMore_56 rfl ?_
          refine ev_iload (X := M_X12_oneMore) (pc := 57) dX12_oneMore_57 rfl ?_
          refine ev_virtR (X := M_X12_oneMore) (Y := M_X12_after) (pc := 59) (ci := 12) dX12_oneMore_59 mk_X12_after rfl kw_1248 kw_1250 kp_26 (lO_156 hL) (m_after hL hC hC2 hpp) rfl (by decide) rfl (Nat.le_of_ble_eq_true rfl) (Nat.zero_add _) (Nat.zero_add _) ?_
          refine ev_zaloadE (X := M_X12_oneMore) (pc := 62) dX12_oneMore_62 (lS_170 hL) (by exact hnsl) (f2 _ hnsl) ?_
          refine ev_ior (X := M_X12_oneMore) (pc := 63) dX12_oneMore_63 ?_
          refine ev_istoreL (X := M_X12_oneMore) (pc := 64) (ls' := [_, _, _, _, _, _, _, _]) dX12_oneMore_64 (by decide) rfl ?_
          refine ev_iload (X := M_X12_oneMore) (pc := 66) dX12_oneMore_66 rfl ?_
          refine ev_aload_n (X := M_X12_oneMore) (pc := 68) dX12_oneMore_68 rfl ?_
          refine ev_getRe (X := M_X12_oneMore) (pc := 69) dX12_oneMore_69 fl_X12_48_12 (lO_156 hL) rfl (lR_156_19 hL) ?_
          refine ev_aload_n (X := M_X12_oneMore) (pc := 72) dX12_oneMore_72 rfl ?_
          refine ev_iload_n (X := M_X12_oneMore) (pc := 73) dX12_oneMore_73 rfl ?_
          refine ev_iload (X := M_X12_oneMore) (pc := 74) dX12_oneMore_74 rfl ?_
          refine ev_virtR (X := M_X12_oneMore) (Y := M_X12_after) (pc := 76) (ci := 12) dX12_oneMore_76 mk_X12_after rfl kw_1248 kw_1250 kp_26 (lO_156 hL) (m_after hL hC hC2 hpp) rfl (by decide) rfl (Nat.le_of_ble_eq_true rfl) (Nat.zero_add _) (Nat.zero_add _) ?_
          refine ev_zaloadE (X := M_X12_oneMore) (pc := 79) dX12_oneMore_79 (lS_169 hL) (by exact hnsl) (f1 _ hnsl) ?_
          refine ev_iand (X := M_X12_oneMore) (pc := 80) dX12_oneMore_80 ?_
          refine ev_istoreL (X := M_X12_oneMore) (pc := 81) (ls' := [_, _, _, _, _, _, _, _]) dX12_oneMore_81 (by decide) rfl ?_
          refine ev_iincL (X := M_X12_oneMore) (pc := 83) (ls' := [_, _, _, _, _, _, _, _]) dX12_oneMore_83 rfl (by decide) rfl ?_
          refine ev_goto (X := M_X12_oneMore) (pc := 86) (tgt := 21) dX12_oneMore_86 (by decide) ?_
          exact ev_weak hg2 ⟨rfl, rfl, rfl, rfl, rfl, rfl, rfl, rfl, trivial⟩
theorem m_force {γ : Gh} {K : Sk} {V : Mm} {D : Int → Int} (h : MQy K V D) {k : Int} (hkr : R32 k) : Call γ M_X12_force 42 0 0 [vR 156, vI k] K V (Qx (some (vI (foR (comF D) (fS D) (nowS D) k))) K (MS V (foE (comF D) (fS D) (nowS D) k (V 159)))) := by
  refine call_of (by decide +kernel) (by intro v hv; simp only [List.mem_cons, List.not_mem_nil, or_false] at hv; rcases hv with rfl | rfl <;> exact fun q => by cases q) (Nat.le_of_ble_eq_true rfl) ?_
  refine ev_lsE (ls' := [_, _, _, _]) rfl ?_
  obtain ⟨hL, hD, hct, hK, hF, hZ⟩ := h
  have hC := comF_wf hK
  have hF6 := fS_r hF
  have hs0 := nowS_st hct
  have hs0l := isSt_lt hs0
  unfold foR foE
  refine ev_iload_n (X := M_X12_force) (pc := 0) dX12_force_0 rfl ?_
  refine ev_staticR (X := M_X12_force) (Y := M_X12_isSort) (pc := 1) dX12_force_1 mk_X12_isSort kw_1163 kw_1164 (m_isSort hkr) rfl (by decide) rfl (Nat.le_of_ble_eq_true rfl) (Nat.zero_add _) (Nat.zero_add _) ?_
  refine ev_if_ne (X := M_X12_force) (pc := 4) (tgt := 13) dX12_force_4 (by decide) (by split <;> decide) (fun h4 => ?_) (fun h4 => ?_)
  · have hk : 0 ≤ k ∧ k < 3 := by
      have : 0 ≤ k ∧ k ≤ 2 := Decidable.byContradiction fun z => h4 (by rw [if_neg z])
      omega
    rw [if_pos hk, if_pos hk]
    refine ev_aload_n (X := M_X12_force) (pc := 13) dX12_force_13 rfl ?_
    refine ev_virtY (X := M_X12_force) (Y := M_X12_findAll) (pc := 14) (ci := 12) dX12_force_14 mk_X12_findAll rfl kw_1197 kw_1199 kp_19 (lO_156 hL) (m_findAll hL hD hK hZ) rfl (by decide) rfl (Nat.le_of_ble_eq_true rfl) (Nat.zero_add _) (Nat.zero_add _) (fun W1 hW1 => ?_)
    have hD1 : W1 157 = D := by rw [hW1.1.row (by decide) (by decide) (by decide)]; exact hD
    have hS1 := MS.com hW1.1 hW1.2
    have hC1 := hW1.2
    clear hW1
    generalize comF D = C at *
    refine ev_aload_n (X := M_X12_force) (pc := 17) dX12_force_17 rfl ?_
    refine ev_virtR (X := M_X12_force) (Y := M_X12_fencedNow) (pc := 18) (ci := 12) dX12_force_18 mk_X12_fencedNow rfl kw_1215 kw_1217 kp_22 (lO_156 hL) (m_fencedE hL hD1 hF) rfl (by decide) rfl (Nat.le_of_ble_eq_true rfl) (Nat.zero_add _) (Nat.zero_add _) ?_
    refine ev_istore_nL (X := M_X12_force) (pc := 21) (ls' := [_, _, _, _]) dX12_force_21 (by decide) rfl ?_
    refine ev_iconst (X := M_X12_force) (pc := 22) dX12_force_22 ?_
    refine ev_istore_nL (X := M_X12_force) (pc := 23) (ls' := [_, _, _, _]) dX12_force_23 (by decide) rfl ?_
    generalize fS D = F at *
    have hQ : ∃ Q, Q = (Qx (some (vI (oNr (fL (U1 C F k) (nowS D) 11)))) K (MS V (if fL (U1 C F k) (nowS D) 11 = -1 then up (V 159) 2 (V 159 2 + 1) else V 159))) := ⟨_, rfl⟩
    obtain ⟨Q, hQ⟩ := hQ
    rw [← hQ]
    have ph2 : ∀ W, fr4 W1 W → (∀ t, 0 ≤ t ∧ t < 2197 → W 169 t = eD k t ∧ W 170 t = eD k t) → Ev γ M_X12_force 42 0 0 61 [vR 156, vI k, vI F, vU] [] K W Q := by
      intro W w1 w2
      refine ev_iconst (X := M_X12_force) (pc := 61) dX12_force_61 ?_
      refine ev_istore_nL (X := M_X12_force) (pc := 62) (ls' := [_, _, _, _]) dX12_force_62 (by decide) rfl ?_
      refine ev_weak (ev_while (σ := Nat × Mm) (fun s => s.1 ≤ 11 ∧ fr4 W1 s.2 ∧ (∀ t, 0 ≤ t ∧ t < 2197 → s.2 169 t = (frc C F k s.1).1 t) ∧ (∀ t, 0 ≤ t ∧ t < 2197 → s.2 170 t = (frc C F k s.1).2 t) ∧ fL (U1 C F k) (nowS D) 11 = fL (U1 C F k) (nowS D) (11 - s.1)) (fun s => 11 - s.1) (fun s => [vR 156, vI k, vI F, vI s.1]) (fun _ => K) (fun s => s.2) ?_ (0, W) ⟨by show 0 ≤ 11; decide, w1, fun t ht => (w2 t ht).1, fun t ht => (w2 t ht).2, rfl⟩) ⟨rfl, rfl, rfl, rfl, trivial⟩
      clear w1 w2 W
      rintro ⟨n, W⟩ ⟨n1, w1, w2, w3, w4⟩ ih
      dsimp only at n1 w1 w2 w3 w4 ih ⊢
      have hD2 : W 157 = D := by rw [w1 157 (by omega)]; exact hD1
      have hC2 : W 161 = C := by rw [w1 161 (by omega)]; exact hC1
      have hMS : MS V (V 159) W := hS1.wk (fun c z => w1 c (by omega))
      have h01 := frc_01 (C := C) (F := F) (k := k) n
      have hv := w2 _ hs0l
      have hfs : n ≤ 10 → fL (U1 C F k) (nowS D) (11 - n) = if (frc C F k n).1 (nowS D) = 1 then (n : Int) else fL (U1 C F k) (nowS D) (11 - (n + 1)) := fun z => by
        rw [show 11 - n = (11 - (n + 1)) + 1 by omega]
        show (if U1 C F k (10 - (11 - (n + 1))) (nowS D) = 1 then ((10 - (11 - (n + 1)) : Nat) : Int) else fL (U1 C F k) (nowS D) (11 - (n + 1))) = _
        rw [show 10 - (11 - (n + 1)) = n by omega]
      have h01s := (h01 (nowS D)).1
      refine ev_iload_n (X := M_X12_force) (pc := 63) dX12_force_63 rfl ?_
      refine ev_bipush (X := M_X12_force) (pc := 64) dX12_force_64 (by decide) ?_
      refine ev_icmp_gt (X := M_X12_force) (pc := 66) (tgt := 95) dX12_force_66 (by decide) (by omega) (by decide) (fun h66 => ?_) (fun h66 => ?_)
      · have hn11 : n = 11 := by omega
        subst hn11
        rw [hQ, w4]
        have hf0 : fL (U1 C F k) (nowS D) (11 - 11) = -1 := rfl
        rw [hf0]
        refine ev_aload_n (X := M_X12_force) (pc := 95) dX12_force_95 rfl ?_
        refine ev_iconst (X := M_X12_force) (pc := 96) dX12_force_96 ?_
        refine ev_virtR (X := M_X12_force) (Y := M_X12_finds) (pc := 97) (ci := 12) dX12_force_97 mk_X12_finds rfl kw_1092 kw_1094 kp_5 (lO_156 hL) (m_finds hL (by decide)) rfl (by decide) rfl (Nat.le_of_ble_eq_true rfl) (Nat.zero_add _) (Nat.zero_add _) ?_
        refine ev_iret (X := M_X12_force) (pc := 100) dX12_force_100 rfl ?_
        exact ⟨rfl, rfl, hMS.er 2⟩
      · refine ev_aload_n (X := M_X12_force) (pc := 69) dX12_force_69 rfl ?_
        refine ev_getRe (X := M_X12_force) (pc := 70) dX12_force_70 fl_X12_48_12 (lO_156 hL) rfl (lR_156_19 hL) ?_
        refine ev_aload_n (X := M_X12_force) (pc := 73) dX12_force_73 rfl ?_
        refine ev_virtR (X := M_X12_force) (Y := M_X12_now) (pc := 74) (ci := 12) dX12_force_74 mk_X12_now rfl kw_1168 kw_1170 kp_18 (lO_156 hL) (m_nowE hL hD2) rfl (by decide) rfl (Nat.le_of_ble_eq_true rfl) (Nat.zero_add _) (Nat.zero_add _) ?_
        refine ev_zaloadE (X := M_X12_force) (pc := 77) dX12_force_77 (lS_169 hL) (by exact hs0l) (hv) ?_
        refine ev_if_eq (X := M_X12_force) (pc := 78) (tgt := 83) dX12_force_78 (by decide) (by omega) (fun h78 => ?_) (fun h78 => ?_)
        · have hv1 : ¬ (frc C F k n).1 (nowS D) = 1 := by omega
          have hr := hfs (by omega)
          rw [if_neg hv1] at hr
          refine ev_aload_n (X := M_X12_force) (pc := 83) dX12_force_83 rfl ?_
          refine ev_iload_n (X := M_X12_force) (pc := 84) dX12_force_84 rfl ?_
          refine ev_iload_n (X := M_X12_force) (pc := 85) dX12_force_85 rfl ?_
          refine ev_virtY (X := M_X12_force) (Y := M_X12_oneMore) (pc := 86) (ci := 12) dX12_force_86 mk_X12_oneMore rfl kw_1355 kw_1357 kp_36 (lO_156 hL) (m_oneMore hL hC hC2 hF6 hk w2 w3 (fun t => (h01 t).1) (fun t => (h01 t).2)) rfl (by decide) rfl (Nat.le_of_ble_eq_true rfl) (Nat.zero_add _) (Nat.zero_add _) (fun W2 hW2 => ?_)
          refine ev_iincL (X := M_X12_force) (pc := 89) (ls' := [_, _, _, _]) dX12_force_89 rfl (by decide) rfl ?_
          refine ev_goto (X := M_X12_force) (pc := 92) (tgt := 63) dX12_force_92 (by decide) ?_
          refine ev_weak (ih (n + 1, W2) ⟨by omega, fun c z => by show W2 c = W1 c; rw [hW2.1 c z]; exact w1 c z, hW2.2.1, hW2.2.2, by show _ = fL (U1 C F k) (nowS D) (11 - (n + 1)); rw [w4, hr]⟩ (by show 11 - (n + 1) < 11 - n; omega)) ⟨rfl, rfl, rfl, congrArg vI (by omega), trivial⟩
        · have hv1 : (frc C F k n).1 (nowS D) = 1 := by omega
          have hr : fL (U1 C F k) (nowS D) 11 = n := by rw [w4, hfs (by omega), if_pos hv1]
          rw [hQ, hr]
          unfold oNr
          rw [if_neg (by omega), if_neg (by omega)]
          refine ev_iload_n (X := M_X12_force) (pc := 81) dX12_force_81 rfl ?_
          refine ev_iret (X := M_X12_force) (pc := 82) dX12_force_82 rfl ?_
          exact ⟨rfl, rfl, hMS⟩
    refine ev_weak (ev_while (σ := Int × Mm) (fun s => 0 ≤ s.1 ∧ s.1 ≤ 2197 ∧ fr4 W1 s.2 ∧ ∀ t, 0 ≤ t ∧ t < s.1 → s.2 169 t = eD k t ∧ s.2 170 t = eD k t) (fun s => (2197 - s.1).toNat) (fun s => [vR 156, vI k, vI F, vI s.1]) (fun _ => K) (fun s => s.2) ?_ (0, W1) ⟨Int.le_refl 0, by show (0 : Int) ≤ 2197; decide, fun _ _ => rfl, fun t ht => by change 0 ≤ t ∧ t < 0 at ht; omega⟩) ⟨rfl, rfl, rfl, rfl, trivial⟩
    rintro ⟨s, W⟩ ⟨s0, s1, w1, w2⟩ ih
    dsimp only at s0 s1 w1 w2 ih ⊢
    have he := (eD_i (k := k) (s := s)).1
    refine ev_iload_n (X := M_X12_force) (pc := 24) dX12_force_24 rfl ?_
    refine ev_sipush (X := M_X12_force) (pc := 25) dX12_force_25 (by decide) ?_
    refine ev_icmp_ge (X := M_X12_force) (pc := 28) (tgt := 61) dX12_force_28 (by decide) (by omega) (by omega) (fun h28 => ?_) (fun h28 => ?_)
    · exact ev_weak (ph2 W w1 (fun t ht => w2 t (by omega))) ⟨rfl, rfl, rfl, trivial⟩
    · refine ev_aload_n (X := M_X12_force) (pc := 31) dX12_force_31 rfl ?_
      refine ev_getRe (X := M_X12_force) (pc := 32) dX12_force_32 fl_X12_48_12 (lO_156 hL) rfl (lR_156_19 hL) ?_
      refine ev_iload_n (X := M_X12_force) (pc := 35) dX12_force_35 rfl ?_
      refine ev_aload_n (X := M_X12_force) (pc := 36) dX12_force_36 rfl ?_
      refine ev_iload_n (X := M_X12_force) (pc := 37) dX12_force_37 rfl ?_
      refine ev_iload_n (X := M_X12_force) (pc := 38) dX12_force_38 rfl ?_
      refine ev_virtR (X := M_X12_force) (Y := M_X12_isEnd) (pc := 39) (ci := 12) dX12_force_39 mk_X12_isEnd rfl kw_1340 kw_1342 kp_35 (lO_156 hL) (m_isEndE (by omega) hk) rfl (by decide) rfl (Nat.le_of_ble_eq_true rfl) (Nat.zero_add _) (Nat.zero_add _) ?_
      refine ev_zastore (X := M_X12_force) (pc := 42) dX12_force_42 (by decide) (lS_169 hL) (by omega) (by exact he) ?_
      refine ev_aload_n (X := M_X12_force) (pc := 43) dX12_force_43 rfl ?_
      refine ev_getRe (X := M_X12_force) (pc := 44) dX12_force_44 fl_X12_51_12 (lO_156 hL) rfl (lR_156_20 hL) ?_
      refine ev_iload_n (X := M_X12_force) (pc := 47) dX12_force_47 rfl ?_
      refine ev_aload_n (X := M_X12_force) (pc := 48) dX12_force_48 rfl ?_
      refine ev_iload_n (X := M_X12_force) (pc := 49) dX12_force_49 rfl ?_
      refine ev_iload_n (X := M_X12_force) (pc := 50) dX12_force_50 rfl ?_
      refine ev_virtR (X := M_X12_force) (Y := M_X12_isEnd) (pc := 51) (ci := 12) dX12_force_51 mk_X12_isEnd rfl kw_1340 kw_1342 kp_35 (lO_156 hL) (m_isEndE (by omega) hk) rfl (by decide) rfl (Nat.le_of_ble_eq_true rfl) (Nat.zero_add _) (Nat.zero_add _) ?_
      refine ev_zastore (X := M_X12_force) (pc := 54) dX12_force_54 (by decide) (lS_170 hL) (by omega) (by exact he) ?_
      refine ev_iincL (X := M_X12_force) (pc := 55) (ls' := [_, _, _, _]) dX12_force_55 rfl (by decide) rfl ?_
      refine ev_goto (X := M_X12_force) (pc := 58) (tgt := 24) dX12_force_58 (by decide) ?_
      refine ev_weak (ih (s + 1, wr (wr W 169 s (eD k s)) 170 s (eD k s)) ⟨by omega, by omega, (w1.w (by decide) _ _).w (by decide) _ _, fun t ht => ?_⟩ (by show (2197 - (s + 1)).toNat < (2197 - s).toNat; omega)) ⟨rfl, rfl, rfl, rfl, trivial⟩
      show wr (wr W 169 s (eD k s)) 170 s (eD k s) 169 t = _ ∧ wr (wr W 169 s (eD k s)) 170 s (eD k s) 170 t = _
      change 0 ≤ t ∧ t < s + 1 at ht
      rw [wr_row, wr_off (show (169 : Nat) ≠ 170 by decide), wr_row, wr_off (show (170 : Nat) ≠ 169 by decide)]
      by_cases z : t = s
      · rw [z, up_self, up_self]
        exact ⟨rfl, rfl⟩
      · rw [up_ne z, up_ne z]
        exact w2 t (by omega)
  · have hno : ¬ (0 ≤ k ∧ k < 3) := fun z => by rw [if_pos (by omega)] at h4; exact absurd h4 (by decide)
    refine ev_aload_n (X := M_X12_force) (pc := 7) dX12_force_7 rfl ?_
    refine ev_iconst (X := M_X12_force) (pc := 8) dX12_force_8 ?_
    refine ev_virtR (X := M_X12_force) (Y := M_X12_finds) (pc := 9) (ci := 12) dX12_force_9 mk_X12_finds rfl kw_1092 kw_1094 kp_5 (lO_156 hL) (m_finds hL (by decide)) rfl (by decide) rfl (Nat.le_of_ble_eq_true rfl) (Nat.zero_add _) (Nat.zero_add _) ?_
    refine ev_iret (X := M_X12_force) (pc := 12) dX12_force_12 rfl ?_
    rw [if_neg hno, if_neg hno]
    exact ⟨rfl, rfl, (MS.rf hZ).er 1⟩
