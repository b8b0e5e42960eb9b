/-- the stack as it lies in a row -/
def Stk (f : Int → Int) : List Int → Prop
  | [] => True
  | v :: s => f s.length = v ∧ (-2147483648 ≤ v ∧ v < 2147483648) ∧ Stk f s
theorem Stk.up : ∀ {f : Int → Int} {s : List Int} {k x : Int}, Stk f s → s.length ≤ k → Stk (up f k x) s
  | f, [], k, x, _, _ => trivial
  | f, v :: s, k, x, h, hk => by
    simp only [List.length_cons] at hk
    exact ⟨by rw [up_ne (by omega)]; exact h.1, h.2.1, h.2.2.up (by omega)⟩
/-- items as a text's code has them -/
def itOk (y : Int) : Prop := (-4 ≤ y ∧ y < 10000) ∨ y = -33 ∨ (-y) ∈ ([38, 42, 43, 45, 47, 60, 61, 62, 124, 37] : List Int)
def nmF (a b c d : Int) (k : Int) : Int := if k = 0 then a else if k = 1 then b else if k = 2 then c else d
theorem run_push {nm : Int → Int} {y : Int} {l s z : List Int} (h : -4 ≤ y) (hr : run nm (y :: l) s = some z) : run nm l (itV nm y :: s) = some z := by
  unfold run at hr
  rw [if_pos h] at hr
  exact hr
theorem run_neg {nm : Int → Int} {l s z : List Int} (hr : run nm (-33 :: l) s = some z) : ∃ v s', s = v :: s' ∧ run nm l ((if v = 0 then 1 else 0) :: s') = some z := by
  unfold run at hr
  rw [if_neg (by decide), if_pos rfl] at hr
  cases s with
  | nil => cases hr
  | cons v s' => exact ⟨v, s', rfl, hr⟩
theorem run_bin {nm : Int → Int} {y : Int} {l s z : List Int} (h : ¬ -4 ≤ y) (h2 : y ≠ -33) (hr : run nm (y :: l) s = some z) : ∃ r v s', s = r :: v :: s' ∧ run nm l (jn (-y) v r :: s') = some z := by
  unfold run at hr
  rw [if_neg h, if_neg h2] at hr
  cases s with
  | nil => cases hr
  | cons r s' =>
    cases s' with
    | nil => cases hr
    | cons v s' => exact ⟨r, v, s', rfl, hr⟩
theorem c_worth {γ : Gh} {K : Sk} {V : Mm} {t n : Nat} {l : List Int} {x a b c d : Int} (t1 : K.1 t = (18, 0)) (t4 : K.2.1 t 2 = t + 1) (t5 : K.2.1 t 3 = t + 3) (hrow : RowAt K (t + 1) (t + 2) n) (t7 : K.1 (t + 3) = (1, n)) (t8 : 178 ≤ t) (hn : n ≤ 50) (hsz : V (t + 1) 1 = l.length) (hln : l.length ≤ n) (hcd : ∀ (j : Nat) (y : Int), l[j]? = some y → V (t + 2) j = y) (hit : ∀ y ∈ l, itOk y) (ha : -2147483648 ≤ a ∧ a < 2147483648) (hb : -2147483648 ≤ b ∧ b < 2147483648) (hc : -2147483648 ≤ c ∧ c < 2147483648) (hd : -2147483648 ≤ d ∧ d < 2147483648) (hrun : run (nmF a b c d) l [] = some [x]) : Call γ M_X8_worth 1 0 0 [vR t, vI a, vI b, vI c, vI d] K V (Qx (some (vI x)) K (fr1 (t + 3) V)) := by
  refine call_of (by decide +kernel) (by intro v hv; simp only [List.mem_cons, List.not_mem_nil, or_false] at hv; rcases hv with rfl | rfl | rfl | rfl | rfl <;> exact fun q => by cases q) (Nat.le_of_ble_eq_true rfl) ?_
  refine ev_lsE (ls' := [_, _, _, _, _, _, _, _]) rfl ?_
  have hO : (K.1 t).1 = 8 + 10 := by rw [t1]
  have hr2 := hrow.2.1
  have hc2 := hrow.2.2.1
  refine ev_iconst (X := M_X8_worth) (pc := 0) dX8_worth_0 ?_
  refine ev_istoreL (X := M_X8_worth) (pc := 1) (ls' := [_, _, _, _, _, _, _, _]) dX8_worth_1 (by decide) rfl ?_
  refine ev_iconst (X := M_X8_worth) (pc := 3) dX8_worth_3 ?_
  refine ev_istoreL (X := M_X8_worth) (pc := 4) (ls' := [_, _, _, _, _, _, _, _]) dX8_worth_4 (by decide) rfl ?_
  refine ev_weak (ev_while (σ := Nat × List Int × Mm) (fun s => s.1 ≤ l.length ∧ run (nmF a b c d) (l.drop s.1) s.2.1 = some [x] ∧ fr1 (t + 3) V s.2.2 ∧ Stk (s.2.2 (t + 3)) s.2.1 ∧ s.2.1.length ≤ s.1) (fun s => l.length - s.1) (fun s => [vR t, vI a, vI b, vI c, vI d, vI s.2.1.length, vI s.1, vU]) (fun _ => K) (fun s => s.2.2) ?_ (0, [], V) ⟨Nat.zero_le _, hrun, fun _ _ => rfl, trivial, Nat.le_refl _⟩) ⟨rfl, rfl, rfl, rfl, rfl, rfl, rfl, trivial⟩
  rintro ⟨i, s, W⟩ ⟨hi, hr, hf, hS, hsi⟩ ih
  dsimp only at hi hr hf hS hsi ih ⊢
  have hWs : W (t + 1) 1 = l.length := by rw [hf (t + 1) (by omega)]; exact hsz
  have hex : i < l.length → ∃ y, l[i]? = some y ∧ l.drop i = y :: l.drop (i + 1) := fun q => ⟨l[i], List.getElem?_eq_getElem q, List.drop_eq_getElem_cons q⟩
  have next : ∀ (s2 : List Int) (k2 v2 top : Int), i < l.length → run (nmF a b c d) (l.drop (i + 1)) s2 = some [x] → Stk (wr W (t + 3) k2 v2 (t + 3)) s2 → (s2.length : Int) = top → s2.length ≤ i + 1 → Ev γ M_X8_worth 1 0 0 6 [vR t, vI a, vI b, vI c, vI d, vI top, vI ((i : Int) + 1), vU] [] K (wr W (t + 3) k2 v2) (Qx (some (vI x)) K (fr1 (t + 3) V)) := by
    intro s2 k2 v2 top q1 q2 q3 q4 q5
    refine ev_weak (ih (i + 1, s2, wr W (t + 3) k2 v2) ⟨by omega, q2, fun e he => by show wr W (t + 3) k2 v2 e = V e; rw [wr_off he]; exact hf e he, q3, q5⟩ (by show l.length - (i + 1) < l.length - i; omega)) ⟨rfl, rfl, rfl, rfl, rfl, by rw [← q4], rfl, trivial⟩
  refine ev_iload (X := M_X8_worth) (pc := 6) dX8_worth_6 rfl ?_
  refine ev_aload_n (X := M_X8_worth) (pc := 8) dX8_worth_8 rfl ?_
  refine ev_getRe (X := M_X8_worth) (pc := 9) dX8_worth_9 fl_X8_28_8 hO rfl t4 ?_
  refine ev_getIe (X := M_X8_worth) (pc := 12) (ki := 1) dX8_worth_12 fl_X8_21_5 hrow.1 (by decide) rfl (hWs) ?_
  refine ev_icmp_ge (X := M_X8_worth) (pc := 15) (tgt := 192) dX8_worth_15 (by decide) (by omega) (by omega) (fun h15 => ?_) (fun h15 => ?_)
  · have hnil : l.drop i = [] := List.drop_eq_nil_of_le (by omega)
    rw [hnil] at hr
    have hsx : s = [x] := Option.some.inj hr
    subst hsx
    have hv0 : W (t + 3) 0 = x := hS.1
    refine ev_iload (X := M_X8_worth) (pc := 192) dX8_worth_192 rfl ?_
    refine ev_if_le (X := M_X8_worth) (pc := 194) (tgt := 206) dX8_worth_194 (by decide) (by show -2147483648 ≤ (1 : Int) ∧ (1 : Int) < 2147483648; decide) (fun h194 => ?_) (fun h194 => ?_)
    · exact absurd (show (1 : Int) ≤ 0 from h194) (by decide)
    · refine ev_aload_n (X := M_X8_worth) (pc := 197) dX8_worth_197 rfl ?_
      refine ev_getRe (X := M_X8_worth) (pc := 198) dX8_worth_198 fl_X8_31_8 hO rfl t5 ?_
      refine ev_iconst (X := M_X8_worth) (pc := 201) dX8_worth_201 ?_
      refine ev_ialoadE (X := M_X8_worth) (pc := 202) dX8_worth_202 t7 (by omega) (hv0) ?_
      refine ev_goto (X := M_X8_worth) (pc := 203) (tgt := 207) dX8_worth_203 (by decide) ?_
      refine ev_iret (X := M_X8_worth) (pc := 207) dX8_worth_207 rfl ?_
      exact ⟨rfl, rfl, hf⟩
  · obtain ⟨y, hy, hdr⟩ := hex (by omega)
    have hym : y ∈ l := List.mem_of_getElem? hy
    have hyo := hit y hym
    have hyr : -124 ≤ y ∧ y < 10000 := by
      rcases hyo with q | q | q
      · omega
      · omega
      · simp only [List.mem_cons, List.not_mem_nil, or_false] at q; omega
    have hWy : W (t + 2) i = y := by rw [hf (t + 2) (by omega)]; exact hcd i y hy
    rw [hdr] at hr
    refine ev_aload_n (X := M_X8_worth) (pc := 18) dX8_worth_18 rfl ?_
    refine ev_getRe (X := M_X8_worth) (pc := 19) dX8_worth_19 fl_X8_28_8 hO rfl t4 ?_
    refine ev_getRe (X := M_X8_worth) (pc := 22) dX8_worth_22 fl_X8_42_5 hrow.1 rfl hr2 ?_
    refine ev_iload (X := M_X8_worth) (pc := 25) dX8_worth_25 rfl ?_
    refine ev_ialoadE (X := M_X8_worth) (pc := 27) dX8_worth_27 hc2 (by omega) (hWy) ?_
    refine ev_istoreL (X := M_X8_worth) (pc := 28) (ls' := [_, _, _, _, _, _, _, _]) dX8_worth_28 (by decide) rfl ?_
    refine ev_iload (X := M_X8_worth) (pc := 30) dX8_worth_30 rfl ?_
    refine ev_bipush (X := M_X8_worth) (pc := 32) dX8_worth_32 (by decide) ?_
    refine ev_icmp_lt (X := M_X8_worth) (pc := 34) (tgt := 104) dX8_worth_34 (by decide) (by omega) (by omega) (fun h34 => ?_) (fun h34 => ?_)
    · refine ev_iload (X := M_X8_worth) (pc := 104) dX8_worth_104 rfl ?_
      refine ev_bipush (X := M_X8_worth) (pc := 106) dX8_worth_106 (by decide) ?_
      refine ev_icmp_ne (X := M_X8_worth) (pc := 108) (tgt := 146) dX8_worth_108 (by decide) (by omega) (by omega) (fun h108 => ?_) (fun h108 => ?_)
      · obtain ⟨r, v, s', hs', hr2⟩ := run_bin (by omega) (by omega) hr
        subst hs'
        obtain ⟨g1, g2, g3, g4, g5⟩ := hS
        have hlen : (((r :: v :: s').length : Nat) : Int) = s'.length + 2 := by simp only [List.length_cons]; omega
        simp only [List.length_cons] at hsi
        rw [hlen]
        have hyj : (-y) ∈ ([38, 42, 43, 45, 47, 60, 61, 62, 124, 37] : List Int) := by
          rcases hyo with q | q | q
          · omega
          · omega
          · exact q
        have hv1 : W (t + 3) ((s'.length : Int) + 2 + -1 - 1) = v := by rw [show (s'.length : Int) + 2 + -1 - 1 = s'.length by omega]; exact g3
        have hv2 : W (t + 3) ((s'.length : Int) + 2 + -1) = r := by rw [show (s'.length : Int) + 2 + -1 = ((v :: s').length : Nat) by simp only [List.length_cons]; omega]; exact g1
        have hgo := next (jn (-y) v r :: s') ((s'.length : Int) + 2 + -1 - 1) (jn (-y) v r) (s'.length + 2 + -1) (by omega) hr2 (by rw [wr_row, show (s'.length : Int) + 2 + -1 - 1 = s'.length by omega]; exact ⟨up_self, jn_r, g5.up (Int.le_refl _)⟩) (by simp only [List.length_cons]; omega) (by simp only [List.length_cons]; omega)
        refine ev_iload (X := M_X8_worth) (pc := 146) dX8_worth_146 rfl ?_
        refine ev_iconst (X := M_X8_worth) (pc := 148) dX8_worth_148 ?_
        refine ev_icmp_lt (X := M_X8_worth) (pc := 149) (tgt := 186) dX8_worth_149 (by decide) (by omega) (by omega) (fun h149 => ?_) (fun h149 => ?_)
        · exact absurd h149 (by omega)
        · refine ev_iincL (X := M_X8_worth) (pc := 152) (ls' := [_, _, _, _, _, _, _, _]) dX8_worth_152 rfl (by decide) rfl ?_
          refine ev_aload_n (X := M_X8_worth) (pc := 155) dX8_worth_155 rfl ?_
          refine ev_getRe (X := M_X8_worth) (pc := 156) dX8_worth_156 fl_X8_31_8 hO rfl t5 ?_
          refine ev_iload (X := M_X8_worth) (pc := 159) dX8_worth_159 rfl ?_
          refine ev_iconst (X := M_X8_worth) (pc := 161) dX8_worth_161 ?_
          refine ev_isub (X := M_X8_worth) (pc := 162) dX8_worth_162 ?_
          refine ev_iload (X := M_X8_worth) (pc := 163) dX8_worth_163 rfl ?_
          refine ev_ineg (X := M_X8_worth) (pc := 165) dX8_worth_165 ?_
          refine ev_aload_n (X := M_X8_worth) (pc := 166) dX8_worth_166 rfl ?_
          refine ev_getRe (X := M_X8_worth) (pc := 167) dX8_worth_167 fl_X8_31_8 hO rfl t5 ?_
          refine ev_iload (X := M_X8_worth) (pc := 170) dX8_worth_170 rfl ?_
          refine ev_iconst (X := M_X8_worth) (pc := 172) dX8_worth_172 ?_
          refine ev_isub (X := M_X8_worth) (pc := 173) dX8_worth_173 ?_
          refine ev_ialoadE (X := M_X8_worth) (pc := 174) dX8_worth_174 t7 (by omega) (hv1) ?_
          refine ev_aload_n (X := M_X8_worth) (pc := 175) dX8_worth_175 rfl ?_
          refine ev_getRe (X := M_X8_worth) (pc := 176) dX8_worth_176 fl_X8_31_8 hO rfl t5 ?_
          refine ev_iload (X := M_X8_worth) (pc := 179) dX8_worth_179 rfl ?_
          refine ev_ialoadE (X := M_X8_worth) (pc := 181) dX8_worth_181 t7 (by omega) (hv2) ?_
          refine ev_staticR (X := M_X8_worth) (Y := M_X8_joined) (pc := 182) dX8_worth_182 mk_X8_joined kw_275 kw_276 (c_joined hyj g4 g2) rfl (by decide) rfl (Nat.le_of_ble_eq_true rfl) (Nat.zero_add _) (Nat.zero_add _) ?_
          refine ev_iastore (X := M_X8_worth) (pc := 185) dX8_worth_185 (by omega) t7 (by omega) ?_
          refine ev_iincL (X := M_X8_worth) (pc := 186) (ls' := [_, _, _, _, _, _, _, _]) dX8_worth_186 rfl (by decide) rfl ?_
          refine ev_goto (X := M_X8_worth) (pc := 189) (tgt := 6) dX8_worth_189 (by decide) ?_
          first
            | exact ev_weak hgo ⟨rfl, rfl, rfl, rfl, rfl, rfl, rfl, trivial⟩
            | exact ev_weak hgo2 ⟨rfl, rfl, rfl, rfl, rfl, rfl, rfl, trivial⟩
      · rw [show y = -33 by omega] at hr
        obtain ⟨v, s', hs', hr⟩ := run_neg hr
        subst hs'
        obtain ⟨g1, g2, g3⟩ := hS
        have hlen : (((v :: s').length : Nat) : Int) = s'.length + 1 := by simp only [List.length_cons]; omega
        simp only [List.length_cons] at hsi
        rw [hlen]
        have hv1 : W (t + 3) ((s'.length : Int) + 1 - 1) = v := by rw [show (s'.length : Int) + 1 - 1 = s'.length by omega]; exact g1
        have hgo := next ((if v = 0 then 1 else 0) :: s') ((s'.length : Int) + 1 - 1) (if v = 0 then 1 else 0) (s'.length + 1) (by omega) hr (by rw [wr_row, show (s'.length : Int) + 1 - 1 = s'.length by omega]; exact ⟨up_self, by split <;> decide, g3.up (Int.le_refl _)⟩) (by simp only [List.length_cons]; omega) (by simp only [List.length_cons]; omega)
        refine ev_iload (X := M_X8_worth) (pc := 111) dX8_worth_111 rfl ?_
        refine ev_iconst (X := M_X8_worth) (pc := 113) dX8_worth_113 ?_
        refine ev_icmp_lt (X := M_X8_worth) (pc := 114) (tgt := 146) dX8_worth_114 (by decide) (by omega) (by omega) (fun h114 => ?_) (fun h114 => ?_)
        · exact absurd h114 (by omega)
        · refine ev_aload_n (X := M_X8_worth) (pc := 117) dX8_worth_117 rfl ?_
          refine ev_getRe (X := M_X8_worth) (pc := 118) dX8_worth_118 fl_X8_31_8 hO rfl t5 ?_
          refine ev_iload (X := M_X8_worth) (pc := 121) dX8_worth_121 rfl ?_
          refine ev_iconst (X := M_X8_worth) (pc := 123) dX8_worth_123 ?_
          refine ev_isub (X := M_X8_worth) (pc := 124) dX8_worth_124 ?_
          refine ev_aload_n (X := M_X8_worth) (pc := 125) dX8_worth_125 rfl ?_
          refine ev_getRe (X := M_X8_worth) (pc := 126) dX8_worth_126 fl_X8_31_8 hO rfl t5 ?_
          refine ev_iload (X := M_X8_worth) (pc := 129) dX8_worth_129 rfl ?_
          refine ev_iconst (X := M_X8_worth) (pc := 131) dX8_worth_131 ?_
          refine ev_isub (X := M_X8_worth) (pc := 132) dX8_worth_132 ?_
          refine ev_ialoadE (X := M_X8_worth) (pc := 133) dX8_worth_133 t7 (by omega) (hv1) ?_
          refine ev_if_ne (X := M_X8_worth) (pc := 134) (tgt := 141) dX8_worth_134 (by decide) (by omega) (fun h134 => ?_) (fun h134 => ?_)
          · rw [if_neg h134] at hgo
            refine ev_iconst (X := M_X8_worth) (pc := 141) dX8_worth_141 ?_
            refine ev_iastore (X := M_X8_worth) (pc := 142) dX8_worth_142 (by omega) t7 (by omega) ?_
            refine ev_goto (X := M_X8_worth) (pc := 143) (tgt := 186) dX8_worth_143 (by decide) ?_
            refine ev_iincL (X := M_X8_worth) (pc := 186) (ls' := [_, _, _, _, _, _, _, _]) dX8_worth_186 rfl (by decide) rfl ?_
            refine ev_goto (X := M_X8_worth) (pc := 189) (tgt := 6) dX8_worth_189 (by decide) ?_
            first
              | exact ev_weak hgo ⟨rfl, rfl, rfl, rfl, rfl, rfl, rfl, trivial⟩
              | exact ev_weak hgo2 ⟨rfl, rfl, rfl, rfl, rfl, rfl, rfl, trivial⟩
          · rw [if_pos h134] at hgo
            refine ev_iconst (X := M_X8_worth) (pc := 137) dX8_worth_137 ?_
            refine ev_goto (X := M_X8_worth) (pc := 138) (tgt := 142) dX8_worth_138 (by decide) ?_
            refine ev_iastore (X := M_X8_worth) (pc := 142) dX8_worth_142 (by omega) t7 (by omega) ?_
            refine ev_goto (X := M_X8_worth) (pc := 143) (tgt := 186) dX8_worth_143 (by decide) ?_
            refine ev_iincL (X := M_X8_worth) (pc := 186) (ls' := [_, _, _, _, _, _, _, _]) dX8_worth_186 rfl (by decide) rfl ?_
            refine ev_goto (X := M_X8_worth) (pc := 189) (tgt := 6) dX8_worth_189 (by decide) ?_
            first
              | exact ev_weak hgo ⟨rfl, rfl, rfl, rfl, rfl, rfl, rfl, trivial⟩
              | exact ev_weak hgo2 ⟨rfl, rfl, rfl, rfl, rfl, rfl, rfl, trivial⟩
    · have hr := run_push (by omega) hr
      have hgo := next (itV (nmF a b c d) y :: s) s.length (itV (nmF a b c d) y) (s.length + 1) (by omega) hr
      refine ev_iload (X := M_X8_worth) (pc := 37) dX8_worth_37 rfl ?_
      refine ev_aload_n (X := M_X8_worth) (pc := 39) dX8_worth_39 rfl ?_
      refine ev_getRe (X := M_X8_worth) (pc := 40) dX8_worth_40 fl_X8_31_8 hO rfl t5 ?_
      refine ev_alen (X := M_X8_worth) (pc := 43) dX8_worth_43 t7 (by decide) (by decide) ?_
      refine ev_icmp_ge (X := M_X8_worth) (pc := 44) (tgt := 104) dX8_worth_44 (by decide) (by omega) (by omega) (fun h44 => ?_) (fun h44 => ?_)
      · exact absurd h44 (by omega)
      · refine ev_aload_n (X := M_X8_worth) (pc := 47) dX8_worth_47 rfl ?_
        refine ev_getRe (X := M_X8_worth) (pc := 48) dX8_worth_48 fl_X8_31_8 hO rfl t5 ?_
        refine ev_iload (X := M_X8_worth) (pc := 51) dX8_worth_51 rfl ?_
        refine ev_iload (X := M_X8_worth) (pc := 53) dX8_worth_53 rfl ?_
        refine ev_if_lt (X := M_X8_worth) (pc := 55) (tgt := 63) dX8_worth_55 (by decide) (by omega) (fun h55 => ?_) (fun h55 => ?_)
        · have hiv : itV (nmF a b c d) y = nmF a b c d (-1 - y) := by unfold itV; rw [if_neg (by omega)]
          refine ev_iload (X := M_X8_worth) (pc := 63) dX8_worth_63 rfl ?_
          refine ev_iconst (X := M_X8_worth) (pc := 65) dX8_worth_65 ?_
          refine ev_icmp_ne (X := M_X8_worth) (pc := 66) (tgt := 73) dX8_worth_66 (by decide) (by omega) (by omega) (fun h66 => ?_) (fun h66 => ?_)
          · refine ev_iload (X := M_X8_worth) (pc := 73) dX8_worth_73 rfl ?_
            refine ev_bipush (X := M_X8_worth) (pc := 75) dX8_worth_75 (by decide) ?_
            refine ev_icmp_ne (X := M_X8_worth) (pc := 77) (tgt := 84) dX8_worth_77 (by decide) (by omega) (by omega) (fun h77 => ?_) (fun h77 => ?_)
            · refine ev_iload (X := M_X8_worth) (pc := 84) dX8_worth_84 rfl ?_
              refine ev_bipush (X := M_X8_worth) (pc := 86) dX8_worth_86 (by decide) ?_
              refine ev_icmp_ne (X := M_X8_worth) (pc := 88) (tgt := 95) dX8_worth_88 (by decide) (by omega) (by omega) (fun h88 => ?_) (fun h88 => ?_)
              · have hiv : itV (nmF a b c d) y = d := by
                  rw [hiv]
                  unfold nmF
                  rw [if_neg (by omega), if_neg (by omega), if_neg (by omega)]
                have hir := hd
                refine ev_iload (X := M_X8_worth) (pc := 95) dX8_worth_95 rfl ?_
                refine ev_iastore (X := M_X8_worth) (pc := 97) dX8_worth_97 (by omega) t7 (by omega) ?_
                rw [hiv] at hgo
                have hgo2 := hgo (by rw [wr_row]; exact ⟨up_self, hir, hS.up (Int.le_refl _)⟩) (by simp only [List.length_cons]; omega) (by simp only [List.length_cons]; omega)
                refine ev_iincL (X := M_X8_worth) (pc := 98) (ls' := [_, _, _, _, _, _, _, _]) dX8_worth_98 rfl (by decide) rfl ?_
                refine ev_goto (X := M_X8_worth) (pc := 101) (tgt := 186) dX8_worth_101 (by decide) ?_
                refine ev_iincL (X := M_X8_worth) (pc := 186) (ls' := [_, _, _, _, _, _, _, _]) dX8_worth_186 rfl (by decide) rfl ?_
                refine ev_goto (X := M_X8_worth) (pc := 189) (tgt := 6) dX8_worth_189 (by decide) ?_
                first
                  | exact ev_weak hgo ⟨rfl, rfl, rfl, rfl, rfl, rfl, rfl, trivial⟩
                  | exact ev_weak hgo2 ⟨rfl, rfl, rfl, rfl, rfl, rfl, rfl, trivial⟩
              · have hiv : itV (nmF a b c d) y = c := by rw [hiv]; unfold nmF; rw [if_neg (by omega), if_neg (by omega), if_pos (by omega)]
                have hir := hc
                refine ev_iload_n (X := M_X8_worth) (pc := 91) dX8_worth_91 rfl ?_
                refine ev_goto (X := M_X8_worth) (pc := 92) (tgt := 97) dX8_worth_92 (by decide) ?_
                refine ev_iastore (X := M_X8_worth) (pc := 97) dX8_worth_97 (by omega) t7 (by omega) ?_
                rw [hiv] at hgo
                have hgo2 := hgo (by rw [wr_row]; exact ⟨up_self, hir, hS.up (Int.le_refl _)⟩) (by simp only [List.length_cons]; omega) (by simp only [List.length_cons]; omega)
                refine ev_iincL (X := M_X8_worth) (pc := 98) (ls' := [_, _, _, _, _, _, _, _]) dX8_worth_98 rfl (by decide) rfl ?_
                refine ev_goto (X := M_X8_worth) (pc := 101) (tgt := 186) dX8_worth_101 (by decide) ?_
                refine ev_iincL (X := M_X8_worth) (pc := 186) (ls' := [_, _, _, _, _, _, _, _]) dX8_worth_186 rfl (by decide) rfl ?_
                refine ev_goto (X := M_X8_worth) (pc := 189) (tgt := 6) dX8_worth_189 (by decide) ?_
                first
                  | exact ev_weak hgo ⟨rfl, rfl, rfl, rfl, rfl, rfl, rfl, trivial⟩
                  | exact ev_weak hgo2 ⟨rfl, rfl, rfl, rfl, rfl, rfl, rfl, trivial⟩
            · have hiv : itV (nmF a b c d) y = b := by rw [hiv]; unfold nmF; rw [if_neg (by omega), if_pos (by omega)]
              have hir := hb
              refine ev_iload_n (X := M_X8_worth) (pc := 80) dX8_worth_80 rfl ?_
              refine ev_goto (X := M_X8_worth) (pc := 81) (tgt := 97) dX8_worth_81 (by decide) ?_
              refine ev_iastore (X := M_X8_worth) (pc := 97) dX8_worth_97 (by omega) t7 (by omega) ?_
              rw [hiv] at hgo
              have hgo2 := hgo (by rw [wr_row]; exact ⟨up_self, hir, hS.up (Int.le_refl _)⟩) (by simp only [List.length_cons]; omega) (by simp only [List.length_cons]; omega)
              refine ev_iincL (X := M_X8_worth) (pc := 98) (ls' := [_, _, _, _, _, _, _, _]) dX8_worth_98 rfl (by decide) rfl ?_
              refine ev_goto (X := M_X8_worth) (pc := 101) (tgt := 186) dX8_worth_101 (by decide) ?_
              refine ev_iincL (X := M_X8_worth) (pc := 186) (ls' := [_, _, _, _, _, _, _, _]) dX8_worth_186 rfl (by decide) rfl ?_
              refine ev_goto (X := M_X8_worth) (pc := 189) (tgt := 6) dX8_worth_189 (by decide) ?_
              first
                | exact ev_weak hgo ⟨rfl, rfl, rfl, rfl, rfl, rfl, rfl, trivial⟩
                | exact ev_weak hgo2 ⟨rfl, rfl, rfl, rfl, rfl, rfl, rfl, trivial⟩
          · have hiv : itV (nmF a b c d) y = a := by rw [hiv]; unfold nmF; rw [if_pos (by omega)]
            have hir := ha
            refine ev_iload_n (X := M_X8_worth) (pc := 69) dX8_worth_69 rfl ?_
            refine ev_goto (X := M_X8_worth) (pc := 70) (tgt := 97) dX8_worth_70 (by decide) ?_
            refine ev_iastore (X := M_X8_worth) (pc := 97) dX8_worth_97 (by omega) t7 (by omega) ?_
            rw [hiv] at hgo
            have hgo2 := hgo (by rw [wr_row]; exact ⟨up_self, hir, hS.up (Int.le_refl _)⟩) (by simp only [List.length_cons]; omega) (by simp only [List.length_cons]; omega)
            refine ev_iincL (X := M_X8_worth) (pc := 98) (ls' := [_, _, _, _, _, _, _, _]) dX8_worth_98 rfl (by decide) rfl ?_
            refine ev_goto (X := M_X8_worth) (pc := 101) (tgt := 186) dX8_worth_101 (by decide) ?_
            refine ev_iincL (X := M_X8_worth) (pc := 186) (ls' := [_, _, _, _, _, _, _, _]) dX8_worth_186 rfl (by decide) rfl ?_
            refine ev_goto (X := M_X8_worth) (pc := 189) (tgt := 6) dX8_worth_189 (by decide) ?_
            first
              | exact ev_weak hgo ⟨rfl, rfl, rfl, rfl, rfl, rfl, rfl, trivial⟩
              | exact ev_weak hgo2 ⟨rfl, rfl, rfl, rfl, rfl, rfl, rfl, trivial⟩
        · have hiv : itV (nmF a b c d) y = y := by unfold itV; rw [if_pos (by omega)]
          have hir : -2147483648 ≤ y ∧ y < 2147483648 := by omega
          refine ev_iload (X := M_X8_worth) (pc := 58) dX8_worth_58 rfl ?_
          refine ev_goto (X := M_X8_worth) (pc := 60) (tgt := 97) dX8_worth_60 (by decide) ?_
          refine ev_iastore (X := M_X8_worth) (pc := 97) dX8_worth_97 (by omega) t7 (by omega) ?_
          rw [hiv] at hgo
          have hgo2 := hgo (by rw [wr_row]; exact ⟨up_self, hir, hS.up (Int.le_refl _)⟩) (by simp only [List.length_cons]; omega) (by simp only [List.length_cons]; omega)
          refine ev_iincL (X := M_X8_worth) (pc := 98) (ls' := [_, _, _, _, _, _, _, _]) dX8_worth_98 rfl (by decide) rfl ?_
          refine ev_goto (X := M_X8_worth) (pc := 101) (tgt := 186) dX8_worth_101 (by decide) ?_
          refine ev_iincL (X := M_X8_worth) (pc := 186) (ls' := [_, _, _, _, _, _, _, _]) dX8_worth_186 rfl (by decide) rfl ?_
          refine ev_goto (X := M_X8_worth) (pc := 189) (tgt := 6) dX8_worth_189 (by decide) ?_
          first
            | exact ev_weak hgo ⟨rfl, rfl, rfl, rfl, rfl, rfl, rfl, trivial⟩
            | exact ev_weak hgo2 ⟨rfl, rfl, rfl, rfl, rfl, rfl, rfl, trivial⟩
