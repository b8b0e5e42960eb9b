def shf (C : Int → Int) (p : Int) : Int := one (C (3 * p)) + one (C (3 * p + 1)) + one (C (3 * p + 2)) - one (lesF p) - one (greF p)
theorem aft_shf (C : Int → Int) (s p : Int) : aft C s p = s + shf C p := by
  unfold aft shf
  omega
/-- what the island of now has worked out of its rules -/
def IslD (V : Mm) (C : Int → Int) (F : Int) : Prop := V 102 5 = F ∧ ∀ p, 0 ≤ p ∧ p < 6 → V 110 p = many C p - 2 ∧ V 111 p = shf C p
theorem shf_r {C : Int → Int} (hC : wfC C) {p : Int} : -400 ≤ shf C p ∧ shf C p ≤ 600 := by
  unfold shf
  have h1 := one_r (C (3 * p)); have h2 := one_r (C (3 * p + 1)); have h3 := one_r (C (3 * p + 2)); have h4 := one_r (lesF p); have h5 := one_r (greF p)
  omega
theorem c_fencedAt {γ : Gh} {K : Sk} {V : Mm} (hL : Lay K) {F p : Int} (hF : 0 ≤ F ∧ F < 64) (hp : 0 ≤ p ∧ p < 6) (hVF : V 102 5 = F) : Call γ M_X2_fencedAt 0 0 0 [vR 102, vI p] K V (Rt (some (vI (bit F p))) K V) := by
  refine call_of (by decide +kernel) (by intro v hv; simp only [List.mem_cons, List.not_mem_nil, or_false] at hv; rcases hv with rfl | rfl <;> exact fun q => by cases q) (Nat.le_of_ble_eq_true rfl) ?_
  refine ev_lsE (ls' := [_, _]) rfl ?_
  refine ev_aload_n (X := M_X2_fencedAt) (pc := 0) dX2_fencedAt_0 rfl ?_
  refine ev_getIe (X := M_X2_fencedAt) (pc := 1) (ki := 5) dX2_fencedAt_1 fl_X2_61_2 (lO_102 hL) (by decide) rfl (hVF) ?_
  refine ev_iload_n (X := M_X2_fencedAt) (pc := 4) dX2_fencedAt_4 rfl ?_
  refine ev_ishr (X := M_X2_fencedAt) (pc := 5) dX2_fencedAt_5 ?_
  refine ev_iconst (X := M_X2_fencedAt) (pc := 6) dX2_fencedAt_6 ?_
  refine ev_iand (X := M_X2_fencedAt) (pc := 7) dX2_fencedAt_7 ?_
  rw [bit_op hF hp]
  refine ev_iret (X := M_X2_fencedAt) (pc := 8) dX2_fencedAt_8 rfl ?_
  exact ⟨rfl, rfl, rfl⟩
theorem c_next {γ : Gh} {K : Sk} {V : Mm} (hL : Lay K) (hV : SV V) {C : Int → Int} (hC : wfC C) {F p s : Int} (hF : 0 ≤ F ∧ F < 64) (hp : 0 ≤ p ∧ p < 6) (hD : IslD V C F) (hs : 0 ≤ s ∧ s < 2197) : Call γ M_X2_next 2 0 0 [vR 102, vI s, vI p] K V (Rt (some (vI (nx C F s p))) K V) := by
  refine call_of (by decide +kernel) (by intro v hv; simp only [List.mem_cons, List.not_mem_nil, or_false] at hv; rcases hv with rfl | rfl | rfl <;> exact fun q => by cases q) (Nat.le_of_ble_eq_true rfl) ?_
  refine ev_lsE (ls' := [_, _, _, _, _, _]) rfl ?_
  have q1 := les_r p hp
  have q2 := gre_r p hp
  have q3 := cnt_r s (lesF p)
  have q4 := cnt_r s (greF p)
  have q5 := bit_01 F p
  have q6 : 0 ≤ bei s ∧ bei s ≤ 36 := by unfold bei; omega
  have q7 := many_r C p
  have q8 := nd_r p
  have q9 := shf_r hC (p := p)
  have key : Ev γ M_X2_next 2 0 0 26 [vR 102, vI s, vI p, vI (lesF p), vI (greF p), vI (nd p)] [] K V (Rt (some (vI (nx C F s p))) K V) := by
      refine ev_aload_n (X := M_X2_next) (pc := 26) dX2_next_26 rfl ?_
      refine ev_iload_n (X := M_X2_next) (pc := 27) dX2_next_27 rfl ?_
      refine ev_virtR (X := M_X2_next) (Y := M_X2_fencedAt) (pc := 28) (ci := 2) dX2_next_28 mk_X2_fencedAt rfl kw_433 kw_422 kw_423 (lO_102 hL) (c_fencedAt hL hF hp hD.1) rfl (by decide) rfl (Nat.le_of_ble_eq_true rfl) (Nat.zero_add _) (Nat.zero_add _) ?_
      refine ev_iconst (X := M_X2_next) (pc := 31) dX2_next_31 ?_
      refine ev_icmp_eq (X := M_X2_next) (pc := 32) (tgt := 56) dX2_next_32 (by decide) (by omega) (by omega) (fun h32 => ?_) (fun h32 => ?_)
      · refine ev_iconst (X := M_X2_next) (pc := 56) dX2_next_56 ?_
        refine ev_iret (X := M_X2_next) (pc := 57) dX2_next_57 rfl ?_
        refine ⟨?_, rfl, rfl⟩
        unfold nx
        rw [if_neg (fun q => by have := may_iff.mp q; omega)]
      · refine ev_iload_n (X := M_X2_next) (pc := 35) dX2_next_35 rfl ?_
        refine ev_iload_n (X := M_X2_next) (pc := 36) dX2_next_36 rfl ?_
        refine ev_staticNR (X := M_X2_next) (Y := M_X11_countOf) (pc := 37) (host := "GreenPath") dX2_next_37 mk_X11_countOf kn_434 kw_325 (c_countOf hL hV (by omega) (by first | exact les_r p hp | exact gre_r p hp)) rfl (by decide) rfl (Nat.le_of_ble_eq_true rfl) (Nat.zero_add _) (Nat.zero_add _) ?_
        refine ev_iload (X := M_X2_next) (pc := 40) dX2_next_40 rfl ?_
        refine ev_icmp_lt (X := M_X2_next) (pc := 42) (tgt := 56) dX2_next_42 (by decide) (by omega) (by omega) (fun h42 => ?_) (fun h42 => ?_)
        · refine ev_iconst (X := M_X2_next) (pc := 56) dX2_next_56 ?_
          refine ev_iret (X := M_X2_next) (pc := 57) dX2_next_57 rfl ?_
          refine ⟨?_, rfl, rfl⟩
          unfold nx
          rw [if_neg (fun q => by have := may_iff.mp q; omega)]
        · refine ev_iload_n (X := M_X2_next) (pc := 45) dX2_next_45 rfl ?_
          refine ev_iload (X := M_X2_next) (pc := 46) dX2_next_46 rfl ?_
          refine ev_staticNR (X := M_X2_next) (Y := M_X11_countOf) (pc := 48) (host := "GreenPath") dX2_next_48 mk_X11_countOf kn_434 kw_325 (c_countOf hL hV (by omega) (by first | exact les_r p hp | exact gre_r p hp)) rfl (by decide) rfl (Nat.le_of_ble_eq_true rfl) (Nat.zero_add _) (Nat.zero_add _) ?_
          refine ev_iload (X := M_X2_next) (pc := 51) dX2_next_51 rfl ?_
          refine ev_icmp_ge (X := M_X2_next) (pc := 53) (tgt := 58) dX2_next_53 (by decide) (by omega) (by omega) (fun h53 => ?_) (fun h53 => ?_)
          · refine ev_iload_n (X := M_X2_next) (pc := 58) dX2_next_58 rfl ?_
            refine ev_staticNR (X := M_X2_next) (Y := M_X11_beingsOf) (pc := 59) (host := "GreenPath") dX2_next_59 mk_X11_beingsOf kn_435 kw_182 (c_beingsOf (by omega)) rfl (by decide) rfl (Nat.le_of_ble_eq_true rfl) (Nat.zero_add _) (Nat.zero_add _) ?_
            refine ev_aload_n (X := M_X2_next) (pc := 62) dX2_next_62 rfl ?_
            refine ev_getRe (X := M_X2_next) (pc := 63) dX2_next_63 fl_X2_43_2 (lO_102 hL) rfl (lR_102_10 hL) ?_
            refine ev_iload_n (X := M_X2_next) (pc := 66) dX2_next_66 rfl ?_
            refine ev_ialoadE (X := M_X2_next) (pc := 67) dX2_next_67 (lS_110 hL) (by omega) ((hD.2 p hp).1) ?_
            refine ev_iadd (X := M_X2_next) (pc := 68) dX2_next_68 ?_
            refine ev_bipush (X := M_X2_next) (pc := 69) dX2_next_69 (by decide) ?_
            refine ev_icmp_le (X := M_X2_next) (pc := 71) (tgt := 78) dX2_next_71 (by decide) (by omega) (by omega) (fun h71 => ?_) (fun h71 => ?_)
            · refine ev_iload_n (X := M_X2_next) (pc := 78) dX2_next_78 rfl ?_
              refine ev_aload_n (X := M_X2_next) (pc := 79) dX2_next_79 rfl ?_
              refine ev_getRe (X := M_X2_next) (pc := 80) dX2_next_80 fl_X2_46_2 (lO_102 hL) rfl (lR_102_11 hL) ?_
              refine ev_iload_n (X := M_X2_next) (pc := 83) dX2_next_83 rfl ?_
              refine ev_ialoadE (X := M_X2_next) (pc := 84) dX2_next_84 (lS_111 hL) (by omega) ((hD.2 p hp).2) ?_
              refine ev_iadd (X := M_X2_next) (pc := 85) dX2_next_85 ?_
              refine ev_iret (X := M_X2_next) (pc := 86) dX2_next_86 rfl ?_
              first | (exfalso; omega) | skip
              refine ⟨?_, rfl, rfl⟩
              unfold nx
              first | (rw [if_neg (fun q => by have := may_iff.mp q; omega)]; done) | (rw [if_pos (may_iff.mpr ⟨by omega, by omega, by omega, by omega⟩), aft_shf])
            · refine ev_iconst (X := M_X2_next) (pc := 74) dX2_next_74 ?_
              refine ev_goto (X := M_X2_next) (pc := 75) (tgt := 86) dX2_next_75 (by decide) ?_
              refine ev_iret (X := M_X2_next) (pc := 86) dX2_next_86 rfl ?_
              first | (exfalso; omega) | skip
              refine ⟨?_, rfl, rfl⟩
              unfold nx
              first | (rw [if_neg (fun q => by have := may_iff.mp q; omega)]; done) | (rw [if_pos (may_iff.mpr ⟨by omega, by omega, by omega, by omega⟩), aft_shf])
          · refine ev_iconst (X := M_X2_next) (pc := 56) dX2_next_56 ?_
            refine ev_iret (X := M_X2_next) (pc := 57) dX2_next_57 rfl ?_
            refine ⟨?_, rfl, rfl⟩
            unfold nx
            rw [if_neg (fun q => by have := may_iff.mp q; omega)]
  refine ev_getsN (X := M_X2_next) (pc := 0) (q := ("GreenPath", "LESSER", "[I", vR 1)) (host := "GreenPath") dX2_next_0 st_1 kn_229 ?_
  refine ev_iload_n (X := M_X2_next) (pc := 3) dX2_next_3 rfl ?_
  refine ev_ialoadE (X := M_X2_next) (pc := 4) dX2_next_4 (lS_1 hL) (by omega) (congrFun hV.1 _) ?_
  refine ev_istore_nL (X := M_X2_next) (pc := 5) (ls' := [_, _, _, _, _, _]) dX2_next_5 (by decide) rfl ?_
  refine ev_getsN (X := M_X2_next) (pc := 6) (q := ("GreenPath", "GREATER", "[I", vR 2)) (host := "GreenPath") dX2_next_6 st_2 kn_237 ?_
  refine ev_iload_n (X := M_X2_next) (pc := 9) dX2_next_9 rfl ?_
  refine ev_ialoadE (X := M_X2_next) (pc := 10) dX2_next_10 (lS_2 hL) (by omega) (congrFun hV.2.1 _) ?_
  refine ev_istoreL (X := M_X2_next) (pc := 11) (ls' := [_, _, _, _, _, _]) dX2_next_11 (by decide) rfl ?_
  refine ev_iload_n (X := M_X2_next) (pc := 13) dX2_next_13 rfl ?_
  refine ev_iload (X := M_X2_next) (pc := 14) dX2_next_14 rfl ?_
  refine ev_icmp_ne (X := M_X2_next) (pc := 16) (tgt := 23) dX2_next_16 (by decide) (by omega) (by omega) (fun h16 => ?_) (fun h16 => ?_)
  · refine ev_iconst (X := M_X2_next) (pc := 23) dX2_next_23 ?_
    refine ev_istoreL (X := M_X2_next) (pc := 24) (ls' := [_, _, _, _, _, _]) dX2_next_24 (by decide) rfl ?_
    refine ev_eq key (e1 := ?_)
    unfold nd
    first | rw [if_pos (by omega)] | rw [if_neg (by omega)]
  · refine ev_iconst (X := M_X2_next) (pc := 19) dX2_next_19 ?_
    refine ev_goto (X := M_X2_next) (pc := 20) (tgt := 24) dX2_next_20 (by decide) ?_
    refine ev_istoreL (X := M_X2_next) (pc := 24) (ls' := [_, _, _, _, _, _]) dX2_next_24 (by decide) rfl ?_
    refine ev_eq key (e1 := ?_)
    unfold nd
    first | rw [if_pos (by omega)] | rw [if_neg (by omega)]
/-- what a draw gives, what it makes of z -/
def zN (z : Int) : Int := z * 1103515245 + 12345
def zD (z : Int) : Int := op_iushr (zN z) 8
theorem c_draw {γ : Gh} {K : Sk} {V : Mm} (hL : Lay K) : Call γ M_X2_draw 0 0 0 [vR 102] K V (Rt (some (vI (zD (V 102 8)))) K (wr V 102 8 (zN (V 102 8)))) := by
  refine call_of (by decide +kernel) (by intro v hv; simp only [List.mem_cons, List.not_mem_nil, or_false] at hv; rcases hv with rfl <;> exact fun q => by cases q) (Nat.le_of_ble_eq_true rfl) ?_
  refine ev_lsE (ls' := [_]) rfl ?_
  refine ev_aload_n (X := M_X2_draw) (pc := 0) dX2_draw_0 rfl ?_
  refine ev_aload_n (X := M_X2_draw) (pc := 1) dX2_draw_1 rfl ?_
  refine ev_getI (X := M_X2_draw) (pc := 2) (ki := 8) dX2_draw_2 fl_X2_35_2 (lO_102 hL) (by decide) rfl ?_
  refine ev_ldc (X := M_X2_draw) (pc := 5) (v := 1103515245) dX2_draw_5 kw_644 (by decide) ?_
  refine ev_imul (X := M_X2_draw) (pc := 7) dX2_draw_7 ?_
  refine ev_sipush (X := M_X2_draw) (pc := 8) dX2_draw_8 (by decide) ?_
  refine ev_iadd (X := M_X2_draw) (pc := 11) dX2_draw_11 ?_
  refine ev_putI (X := M_X2_draw) (pc := 12) (ki := 8) dX2_draw_12 fl_X2_35_2 (by decide) (lO_102 hL) (fun _ h q => by cases h; cases q) (Or.inl rfl) rfl ?_
  refine ev_aload_n (X := M_X2_draw) (pc := 15) dX2_draw_15 rfl ?_
  refine ev_getI (X := M_X2_draw) (pc := 16) (ki := 8) dX2_draw_16 fl_X2_35_2 (lO_102 hL) (by decide) rfl ?_
  refine ev_bipush (X := M_X2_draw) (pc := 19) dX2_draw_19 (by decide) ?_
  refine ev_iushr (X := M_X2_draw) (pc := 21) dX2_draw_21 ?_
  refine ev_iret (X := M_X2_draw) (pc := 22) dX2_draw_22 rfl ?_
  exact ⟨by rw [wr_row, up_self]; rfl, rfl, rfl⟩
def sAt (s i : Int) : Int := if i < cnt s 0 then 0 else if i < cnt s 0 + cnt s 1 then 1 else 2
theorem c_sortAt {γ : Gh} {K : Sk} {V : Mm} (hL : Lay K) (hV : SV V) {s i : Int} (hs : 0 ≤ s ∧ s < 2197) (hi : 0 ≤ i ∧ i < 2147483648) : Call γ M_X2_sortAt 1 0 0 [vI s, vI i] K V (Rt (some (vI (sAt s i))) K V) := by
  refine call_of (by decide +kernel) (by intro v hv; simp only [List.mem_cons, List.not_mem_nil, or_false] at hv; rcases hv with rfl | rfl <;> exact fun q => by cases q) (Nat.le_of_ble_eq_true rfl) ?_
  refine ev_lsE (ls' := [_, _, _]) rfl ?_
  have q1 := cnt_r s 0
  have q2 := cnt_r s 1
  refine ev_iload_n (X := M_X2_sortAt) (pc := 0) dX2_sortAt_0 rfl ?_
  refine ev_iconst (X := M_X2_sortAt) (pc := 1) dX2_sortAt_1 ?_
  refine ev_staticNR (X := M_X2_sortAt) (Y := M_X11_countOf) (pc := 2) (host := "GreenPath") dX2_sortAt_2 mk_X11_countOf kn_434 kw_325 (c_countOf hL hV (by omega) (by decide)) rfl (by decide) rfl (Nat.le_of_ble_eq_true rfl) (Nat.zero_add _) (Nat.zero_add _) ?_
  refine ev_istore_nL (X := M_X2_sortAt) (pc := 5) (ls' := [_, _, _]) dX2_sortAt_5 (by decide) rfl ?_
  refine ev_iload_n (X := M_X2_sortAt) (pc := 6) dX2_sortAt_6 rfl ?_
  refine ev_iload_n (X := M_X2_sortAt) (pc := 7) dX2_sortAt_7 rfl ?_
  refine ev_icmp_ge (X := M_X2_sortAt) (pc := 8) (tgt := 13) dX2_sortAt_8 (by decide) (by omega) (by omega) (fun h8 => ?_) (fun h8 => ?_)
  · refine ev_iload_n (X := M_X2_sortAt) (pc := 13) dX2_sortAt_13 rfl ?_
    refine ev_iload_n (X := M_X2_sortAt) (pc := 14) dX2_sortAt_14 rfl ?_
    refine ev_iload_n (X := M_X2_sortAt) (pc := 15) dX2_sortAt_15 rfl ?_
    refine ev_iconst (X := M_X2_sortAt) (pc := 16) dX2_sortAt_16 ?_
    refine ev_staticNR (X := M_X2_sortAt) (Y := M_X11_countOf) (pc := 17) (host := "GreenPath") dX2_sortAt_17 mk_X11_countOf kn_434 kw_325 (c_countOf hL hV (by omega) (by decide)) rfl (by decide) rfl (Nat.le_of_ble_eq_true rfl) (Nat.zero_add _) (Nat.zero_add _) ?_
    refine ev_iadd (X := M_X2_sortAt) (pc := 20) dX2_sortAt_20 ?_
    refine ev_icmp_ge (X := M_X2_sortAt) (pc := 21) (tgt := 28) dX2_sortAt_21 (by decide) (by omega) (by omega) (fun h21 => ?_) (fun h21 => ?_)
    · refine ev_iconst (X := M_X2_sortAt) (pc := 28) dX2_sortAt_28 ?_
      refine ev_iret (X := M_X2_sortAt) (pc := 29) dX2_sortAt_29 rfl ?_
      refine ⟨?_, rfl, rfl⟩
      unfold sAt
      first | rw [if_pos (by omega)] | rw [if_neg (by omega), if_pos (by omega)] | rw [if_neg (by omega), if_neg (by omega)]
    · refine ev_iconst (X := M_X2_sortAt) (pc := 24) dX2_sortAt_24 ?_
      refine ev_goto (X := M_X2_sortAt) (pc := 25) (tgt := 29) dX2_sortAt_25 (by decide) ?_
      refine ev_iret (X := M_X2_sortAt) (pc := 29) dX2_sortAt_29 rfl ?_
      refine ⟨?_, rfl, rfl⟩
      unfold sAt
      first | rw [if_pos (by omega)] | rw [if_neg (by omega), if_pos (by omega)] | rw [if_neg (by omega), if_neg (by omega)]
  · refine ev_iconst (X := M_X2_sortAt) (pc := 11) dX2_sortAt_11 ?_
    refine ev_iret (X := M_X2_sortAt) (pc := 12) dX2_sortAt_12 rfl ?_
    refine ⟨?_, rfl, rfl⟩
    unfold sAt
    first | rw [if_pos (by omega)] | rw [if_neg (by omega), if_pos (by omega)] | rw [if_neg (by omega), if_neg (by omega)]
/-- a pair of them leads there -/
abbrev lds (C : Int → Int) (F s t : Int) : Prop := nx C F s 0 = t ∨ nx C F s 1 = t ∨ nx C F s 2 = t ∨ nx C F s 3 = t ∨ nx C F s 4 = t ∨ nx C F s 5 = t
theorem lds_of {C : Int → Int} {F s t i : Int} (hi : 0 ≤ i ∧ i < 6) (h : nx C F s i = t) : lds C F s t := by
  rcases (show i = 0 ∨ i = 1 ∨ i = 2 ∨ i = 3 ∨ i = 4 ∨ i = 5 by omega) with rfl | rfl | rfl | rfl | rfl | rfl <;> simp [lds, h]
theorem lds_no {C : Int → Int} {F s t : Int} (h : ∀ p, 0 ≤ p → p < 6 → ¬ nx C F s p = t) : ¬ lds C F s t := by
  rintro (q | q | q | q | q | q)
  · exact h 0 (by decide) (by decide) q
  · exact h 1 (by decide) (by decide) q
  · exact h 2 (by decide) (by decide) q
  · exact h 3 (by decide) (by decide) q
  · exact h 4 (by decide) (by decide) q
  · exact h 5 (by decide) (by decide) q
theorem nx_r {C : Int → Int} {F s p : Int} (hC : wfC C) (hs : 0 ≤ s ∧ s < 2197) (hp : 0 ≤ p ∧ p < 6) : -2147483648 ≤ nx C F s p ∧ nx C F s p < 2147483648 := by
  have := shf_r hC (p := p)
  unfold nx
  rw [aft_shf]
  split <;> omega
/-- a counting loop that leaves the heap as it is, with something known at its head -/
theorem ev_countI {γ : Gh} {X : MX} {d mc ms pc : Nat} {st : List PV} {Q : Option PV → Sk → Mm → Prop} (n i0 : Int) (I : Int → Prop) (ls : Int → List PV) {K : Sk} {V : Mm} (h0 : i0 ≤ n) (hI : I i0) (step : ∀ i, i0 ≤ i → i ≤ n → I i → (i < n → I (i + 1) → Ev γ X d mc ms pc (ls (i + 1)) st K V Q) → Ev γ X d mc ms pc (ls i) st K V Q) : Ev γ X d mc ms pc (ls i0) st K V Q :=
  ev_for n i0 (fun i W => W = V ∧ I i) ls h0 ⟨rfl, hI⟩ (fun i W h1 h2 hW ih => by obtain ⟨hW, hi⟩ := hW; subst hW; exact step i h1 h2 hi (fun hlt hI => ih hlt _ ⟨rfl, hI⟩))
theorem c_leadsTo {γ : Gh} {K : Sk} {V : Mm} (hL : Lay K) (hV : SV V) {C : Int → Int} (hC : wfC C) {F s t : Int} (hF : 0 ≤ F ∧ F < 64) (hD : IslD V C F) (hs : 0 ≤ s ∧ s < 2197) (ht : -2147483648 ≤ t ∧ t < 2147483648) : Call γ M_X2_leadsTo 3 0 0 [vR 102, vI s, vI t] K V (Rt (some (vI (if 0 ≤ t ∧ lds C F s t then 1 else 0))) K V) := by
  refine call_of (by decide +kernel) (by intro v hv; simp only [List.mem_cons, List.not_mem_nil, or_false] at hv; rcases hv with rfl | rfl | rfl <;> exact fun q => by cases q) (Nat.le_of_ble_eq_true rfl) ?_
  refine ev_lsE (ls' := [_, _, _, _]) rfl ?_
  refine ev_iconst (X := M_X2_leadsTo) (pc := 0) dX2_leadsTo_0 ?_
  refine ev_istore_nL (X := M_X2_leadsTo) (pc := 1) (ls' := [_, _, _, _]) dX2_leadsTo_1 (by decide) rfl ?_
  refine ev_countI 6 0 (fun i => ∀ p, 0 ≤ p → p < i → 0 ≤ t → ¬ nx C F s p = t) (fun i => [vR 102, vI s, vI t, vI i]) (by decide) (fun p h1 h2 => by omega) (fun i hi hn hno ih => ?_)
  refine ev_iload_n (X := M_X2_leadsTo) (pc := 2) dX2_leadsTo_2 rfl ?_
  refine ev_bipush (X := M_X2_leadsTo) (pc := 3) dX2_leadsTo_3 (by decide) ?_
  refine ev_icmp_ge (X := M_X2_leadsTo) (pc := 5) (tgt := 30) dX2_leadsTo_5 (by decide) (by omega) (by omega) (fun h5 => ?_) (fun h5 => ?_)
  · refine ev_iconst (X := M_X2_leadsTo) (pc := 30) dX2_leadsTo_30 ?_
    refine ev_bret (X := M_X2_leadsTo) (pc := 31) dX2_leadsTo_31 rfl (by omega) ?_
    refine ⟨?_, rfl, rfl⟩
    rw [if_neg]
    rintro ⟨h1, h2⟩
    exact lds_no (fun p a b => hno p a (by omega) h1) h2
  · refine ev_iload_n (X := M_X2_leadsTo) (pc := 8) dX2_leadsTo_8 rfl ?_
    refine ev_if_lt (X := M_X2_leadsTo) (pc := 9) (tgt := 24) dX2_leadsTo_9 (by decide) (by omega) (fun h9 => ?_) (fun h9 => ?_)
    · refine ev_iincL (X := M_X2_leadsTo) (pc := 24) (ls' := [_, _, _, _]) dX2_leadsTo_24 rfl (by decide) rfl ?_
      refine ev_goto (X := M_X2_leadsTo) (pc := 27) (tgt := 2) dX2_leadsTo_27 (by decide) ?_
      refine ih (by omega) (fun p h1 h2 h3 h4 => ?_)
      rcases (show p = i ∨ p < i by omega) with hpi | hpi
      · subst hpi
        first | (exfalso; omega) | exact h19 h4
      · exact hno p h1 hpi h3 h4
    · refine ev_aload_n (X := M_X2_leadsTo) (pc := 12) dX2_leadsTo_12 rfl ?_
      refine ev_iload_n (X := M_X2_leadsTo) (pc := 13) dX2_leadsTo_13 rfl ?_
      refine ev_iload_n (X := M_X2_leadsTo) (pc := 14) dX2_leadsTo_14 rfl ?_
      refine ev_virtR (X := M_X2_leadsTo) (Y := M_X2_next) (pc := 15) (ci := 2) dX2_leadsTo_15 mk_X2_next rfl kw_648 kw_430 kw_431 (lO_102 hL) (c_next hL hV hC hF (by omega) hD hs) rfl (by decide) rfl (Nat.le_of_ble_eq_true rfl) (Nat.zero_add _) (Nat.zero_add _) ?_
      refine ev_iload_n (X := M_X2_leadsTo) (pc := 18) dX2_leadsTo_18 rfl ?_
      refine ev_icmp_ne (X := M_X2_leadsTo) (pc := 19) (tgt := 24) dX2_leadsTo_19 (by decide) (nx_r hC hs (by omega)) (ht) (fun h19 => ?_) (fun h19 => ?_)
      · refine ev_iincL (X := M_X2_leadsTo) (pc := 24) (ls' := [_, _, _, _]) dX2_leadsTo_24 rfl (by decide) rfl ?_
        refine ev_goto (X := M_X2_leadsTo) (pc := 27) (tgt := 2) dX2_leadsTo_27 (by decide) ?_
        refine ih (by omega) (fun p h1 h2 h3 h4 => ?_)
        rcases (show p = i ∨ p < i by omega) with hpi | hpi
        · subst hpi
          first | (exfalso; omega) | exact h19 h4
        · exact hno p h1 hpi h3 h4
      · refine ev_iconst (X := M_X2_leadsTo) (pc := 22) dX2_leadsTo_22 ?_
        refine ev_bret (X := M_X2_leadsTo) (pc := 23) dX2_leadsTo_23 rfl (by omega) ?_
        exact ⟨by rw [if_pos ⟨by omega, lds_of (by omega) h19⟩], rfl, rfl⟩
