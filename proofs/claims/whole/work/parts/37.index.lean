section ST
variable {γ : Gh} {X : MX} {d mc ms pc : Nat} {ls st : List PV} {K : Sk} {V : Mm} {Q : Option PV → Sk → Mm → Prop}
variable {Y : MX} {index n d' mc' ms' mcr msr : Nat} {As : List PV} {v : PV} {K' : Sk} {V' : Mm}
theorem st_6 : ("java/lang/String", "COMPACT_STRINGS", "Z", vI 1) ∈ stL := List.mem_of_getElem? (i := 5) rfl
theorem ev_getSvE {index a b : Nat} (hd : decode X.2.1 pc = .ok (.getfield index, 3)) (w : Cond.fieldLink X.1.cls index "java/lang/String" "value" "[B" ∈ tb) (hs : (K.1 a).1 = 8) (hv : K.2.1 a 1 = b) (kk : Ev γ X d mc ms (pc + 3) ls (vR b :: st) K V Q) : Ev γ X d mc ms pc ls (vR a :: st) K V Q :=
  ev_getSv hd w hs (by rw [hv]; exact kk)
theorem ev_virtSR {a : Nat} (hd : decode X.2.1 pc = .ok (.invokevirtual index, 3)) (hy : mOk Y n) (w1 : Cond.methodLink X.1.cls index Y.1 ∈ tb) (w2 : Cond.instanceMethod Y.1 ∈ tb) (w3 : Cond.selects "java/lang/String" Y.1 Y.1 ∈ tb) (hs : (K.1 a).1 = 8) (hC : Call γ Y d' mc' ms' (vR a :: As) K V (Rt (some v) K' V')) {stk : List PV} (hst : stk = As.reverse ++ vR a :: st) (hd' : d' < d) (hn : As.length = n) (hW : (st.map pcat).sum ≤ 8) (hmc : mc' + mcr = mc) (hms : ms' + msr = ms)
    (kk : Ev γ X d mcr msr (pc + 3) ls (v :: st) K' V' Q) : Ev γ X d mc ms pc ls stk K V Q :=
  ev_virtS hd hy w1 w2 w3 hs hC hst hd' hn hW hmc hms (by rintro _ _ _ ⟨rfl, rfl, rfl⟩; exact kk)
end ST
/-- where a byte stands first -/
def ixN (f : Int → Int) (ch : Int) : Nat → Int → Int
  | 0, _ => -1
  | k + 1, i => if f i = ch then i else ixN f ch k (i + 1)
def ixF (f : Int → Int) (n : Nat) (ch : Int) : Int := ixN f ch n 0
theorem ixN_r {f : Int → Int} {ch : Int} : ∀ (k : Nat) (i : Int), 0 ≤ i → -1 ≤ ixN f ch k i ∧ ixN f ch k i < i + k
  | 0, i, h => by show -1 ≤ (-1 : Int) ∧ (-1 : Int) < i + (0 : Nat); omega
  | k + 1, i, h => by
    show -1 ≤ (if f i = ch then i else ixN f ch k (i + 1)) ∧ (if f i = ch then i else ixN f ch k (i + 1)) < i + (k + 1 : Nat)
    have := ixN_r (f := f) (ch := ch) k (i + 1) (by omega)
    split <;> omega
/-- a String with plain bytes -/
def StrAt (K : Sk) (V : Mm) (a b n : Nat) : Prop := (K.1 a).1 = 8 ∧ V a 0 = 0 ∧ K.2.1 a 1 = b ∧ K.1 b = (4, n) ∧ 0 < n ∧ n < 100 ∧ ∀ i : Int, 0 ≤ i → i < n → 0 ≤ V b i ∧ V b i < 128
theorem i2c_n : ∀ n, n < 256 → op_i2c (n : Nat) = n := by decide +kernel
theorem i2b_n : ∀ n, n < 256 → op_i2b (n : Nat) = if n < 128 then (n : Int) else (n : Int) - 256 := by decide +kernel
theorem ishr_0 : ∀ n, n < 100 → op_ishr (n : Nat) 0 = n := by decide +kernel
theorem i2c_id {x : Int} (h : 0 ≤ x ∧ x < 256) : op_i2c x = x := by
  have := i2c_n x.toNat (by omega)
  rw [Int.toNat_of_nonneg h.1] at this
  exact this
theorem i2b_id {x : Int} (h : 0 ≤ x ∧ x < 256) : op_i2b x = if x < 128 then x else x - 256 := by
  have := i2b_n x.toNat (by omega)
  rw [Int.toNat_of_nonneg h.1] at this
  rw [this]
  by_cases q : x < 128
  · rw [if_pos q, if_pos (by omega)]
  · rw [if_neg q, if_neg (by omega)]
theorem j_isLatin1 {γ : Gh} {K : Sk} {V : Mm} {a : Nat} (hs : (K.1 a).1 = 8) (hc : V a 0 = 0) : Call γ M_J0_isLatin1_aae02 0 0 0 [vR a] K V (Rt (some (vI 1)) K V) := by
  refine call_of (by decide +kernel) (by intro v hv; simp only [List.mem_cons, List.not_mem_nil, or_false] at hv; rcases hv with rfl <;> exact fun q => by cases q) (Nat.le_of_ble_eq_true rfl) ?_
  refine ev_lsE (ls' := [_]) rfl ?_
  refine ev_gets (X := M_J0_isLatin1_aae02) (pc := 0) (q := ("java/lang/String", "COMPACT_STRINGS", "Z", vI 1)) dJ0_isLatin1_aae02_0 st_6 kw_526 ?_
  refine ev_if_eq (X := M_J0_isLatin1_aae02) (pc := 3) (tgt := 17) dJ0_isLatin1_aae02_3 (by decide) (by decide) (fun h3 => ?_) (fun h3 => ?_)
  · exact absurd h3 (by decide)
  · refine ev_aload_n (X := M_J0_isLatin1_aae02) (pc := 6) dJ0_isLatin1_aae02_6 rfl ?_
    refine ev_getSc (X := M_J0_isLatin1_aae02) (pc := 7) dJ0_isLatin1_aae02_7 kw_1469 hs ?_
    rw [hc]
    refine ev_if_ne (X := M_J0_isLatin1_aae02) (pc := 10) (tgt := 17) dJ0_isLatin1_aae02_10 (by decide) (by decide) (fun h10 => ?_) (fun h10 => ?_)
    · exact absurd rfl h10
    · refine ev_iconst (X := M_J0_isLatin1_aae02) (pc := 13) dJ0_isLatin1_aae02_13 ?_
      refine ev_goto (X := M_J0_isLatin1_aae02) (pc := 14) (tgt := 18) dJ0_isLatin1_aae02_14 (by decide) ?_
      refine ev_bret (X := M_J0_isLatin1_aae02) (pc := 18) dJ0_isLatin1_aae02_18 rfl (by omega) ?_
      exact ⟨rfl, rfl, rfl⟩
theorem j_coder {γ : Gh} {K : Sk} {V : Mm} {a : Nat} (hs : (K.1 a).1 = 8) (hc : V a 0 = 0) : Call γ M_J0_coder_7d493 0 0 0 [vR a] K V (Rt (some (vI 0)) K V) := by
  refine call_of (by decide +kernel) (by intro v hv; simp only [List.mem_cons, List.not_mem_nil, or_false] at hv; rcases hv with rfl <;> exact fun q => by cases q) (Nat.le_of_ble_eq_true rfl) ?_
  refine ev_lsE (ls' := [_]) rfl ?_
  refine ev_gets (X := M_J0_coder_7d493) (pc := 0) (q := ("java/lang/String", "COMPACT_STRINGS", "Z", vI 1)) dJ0_coder_7d493_0 st_6 kw_526 ?_
  refine ev_if_eq (X := M_J0_coder_7d493) (pc := 3) (tgt := 13) dJ0_coder_7d493_3 (by decide) (by decide) (fun h3 => ?_) (fun h3 => ?_)
  · exact absurd h3 (by decide)
  · refine ev_aload_n (X := M_J0_coder_7d493) (pc := 6) dJ0_coder_7d493_6 rfl ?_
    refine ev_getSc (X := M_J0_coder_7d493) (pc := 7) dJ0_coder_7d493_7 kw_1469 hs ?_
    rw [hc]
    refine ev_goto (X := M_J0_coder_7d493) (pc := 10) (tgt := 14) dJ0_coder_7d493_10 (by decide) ?_
    refine ev_zret (X := M_J0_coder_7d493) (pc := 14) dJ0_coder_7d493_14 rfl (by decide) ?_
    exact ⟨rfl, rfl, rfl⟩
theorem j_length {γ : Gh} {K : Sk} {V : Mm} {a b n : Nat} (h : StrAt K V a b n) : Call γ M_J0_length_8abf5 1 0 0 [vR a] K V (Rt (some (vI n)) K V) := by
  refine call_of (by decide +kernel) (by intro v hv; simp only [List.mem_cons, List.not_mem_nil, or_false] at hv; rcases hv with rfl <;> exact fun q => by cases q) (Nat.le_of_ble_eq_true rfl) ?_
  refine ev_lsE (ls' := [_]) rfl ?_
  obtain ⟨hs, hc, hr, hb, hn, hn2, -⟩ := h
  refine ev_aload_n (X := M_J0_length_8abf5) (pc := 0) dJ0_length_8abf5_0 rfl ?_
  refine ev_getSvE (X := M_J0_length_8abf5) (pc := 1) dJ0_length_8abf5_1 kw_1470 hs hr ?_
  refine ev_alen (X := M_J0_length_8abf5) (pc := 4) dJ0_length_8abf5_4 hb (by decide) (by decide) ?_
  refine ev_aload_n (X := M_J0_length_8abf5) (pc := 5) dJ0_length_8abf5_5 rfl ?_
  refine ev_virtSR (X := M_J0_length_8abf5) (Y := M_J0_coder_7d493) (pc := 6) dJ0_length_8abf5_6 mk_J0_coder_7d493 kw_532 kw_533 kw_534 hs (j_coder hs hc) rfl (by decide) rfl (Nat.le_of_ble_eq_true rfl) (Nat.zero_add _) (Nat.zero_add _) ?_
  refine ev_ishr (X := M_J0_length_8abf5) (pc := 9) dJ0_length_8abf5_9 ?_
  rw [ishr_0 n hn2]
  refine ev_iret (X := M_J0_length_8abf5) (pc := 10) dJ0_length_8abf5_10 rfl ?_
  exact ⟨rfl, rfl, rfl⟩
theorem j_canEncode {γ : Gh} {K : Sk} {V : Mm} {x : Int} (hx : 0 ≤ x ∧ x < 256) : Call γ M_J1_canEncode_9a6ad 0 0 0 [vI x] K V (Rt (some (vI 1)) K V) := by
  refine call_of (by decide +kernel) (by intro v hv; simp only [List.mem_cons, List.not_mem_nil, or_false] at hv; rcases hv with rfl <;> exact fun q => by cases q) (Nat.le_of_ble_eq_true rfl) ?_
  refine ev_lsE (ls' := [_]) rfl ?_
  refine ev_iload_n (X := M_J1_canEncode_9a6ad) (pc := 0) dJ1_canEncode_9a6ad_0 rfl ?_
  refine ev_if_lt (X := M_J1_canEncode_9a6ad) (pc := 1) (tgt := 15) dJ1_canEncode_9a6ad_1 (by decide) (by omega) (fun h1 => ?_) (fun h1 => ?_)
  · exact absurd h1 (by omega)
  · refine ev_iload_n (X := M_J1_canEncode_9a6ad) (pc := 4) dJ1_canEncode_9a6ad_4 rfl ?_
    refine ev_sipush (X := M_J1_canEncode_9a6ad) (pc := 5) dJ1_canEncode_9a6ad_5 (by decide) ?_
    refine ev_icmp_gt (X := M_J1_canEncode_9a6ad) (pc := 8) (tgt := 15) dJ1_canEncode_9a6ad_8 (by decide) (by omega) (by omega) (fun h8 => ?_) (fun h8 => ?_)
    · exact absurd h8 (by omega)
    · refine ev_iconst (X := M_J1_canEncode_9a6ad) (pc := 11) dJ1_canEncode_9a6ad_11 ?_
      refine ev_goto (X := M_J1_canEncode_9a6ad) (pc := 12) (tgt := 16) dJ1_canEncode_9a6ad_12 (by decide) ?_
      refine ev_bret (X := M_J1_canEncode_9a6ad) (pc := 16) dJ1_canEncode_9a6ad_16 rfl (by omega) ?_
      exact ⟨rfl, rfl, rfl⟩
theorem j_indexOfChar {γ : Gh} {K : Sk} {V : Mm} {b n : Nat} {ch : Int} (hb : K.1 b = (4, n)) (hn : n < 100) (hby : ∀ i : Int, 0 ≤ i → i < n → 0 ≤ V b i ∧ V b i < 128) (hch : 0 ≤ ch ∧ ch < 256) : Call γ M_J1_indexOfChar_4cfef 0 0 0 [vR b, vI ch, vI 0, vI n] K V (Rt (some (vI (ixF (V b) n ch))) K V) := by
  refine call_of (by decide +kernel) (by intro v hv; simp only [List.mem_cons, List.not_mem_nil, or_false] at hv; rcases hv with rfl | rfl | rfl | rfl <;> exact fun q => by cases q) (Nat.le_of_ble_eq_true rfl) ?_
  refine ev_lsE (ls' := [_, _, _, _, _, _]) rfl ?_
  have hbb := i2b_id hch
  have hr : -128 ≤ op_i2b ch ∧ op_i2b ch < 128 := by rw [hbb]; split <;> omega
  refine ev_iload_n (X := M_J1_indexOfChar_4cfef) (pc := 0) dJ1_indexOfChar_4cfef_0 rfl ?_
  refine ev_i2b (X := M_J1_indexOfChar_4cfef) (pc := 1) dJ1_indexOfChar_4cfef_1 ?_
  refine ev_istoreL (X := M_J1_indexOfChar_4cfef) (pc := 2) (ls' := [_, _, _, _, _, _]) dJ1_indexOfChar_4cfef_2 (by decide) rfl ?_
  refine ev_iload_n (X := M_J1_indexOfChar_4cfef) (pc := 4) dJ1_indexOfChar_4cfef_4 rfl ?_
  refine ev_istoreL (X := M_J1_indexOfChar_4cfef) (pc := 5) (ls' := [_, _, _, _, _, _]) dJ1_indexOfChar_4cfef_5 (by decide) rfl ?_
  refine ev_weak (ev_countI (n : Int) 0 (fun i => ixF (V b) n ch = ixN (V b) ch (n - i).toNat i) (fun i => [vR b, vI ch, vI 0, vI n, vI (op_i2b ch), vI i]) (by omega) (by show ixF (V b) n ch = ixN (V b) ch ((n : Int) - 0).toNat 0; rw [show ((n : Int) - 0).toNat = n by omega]; rfl) (fun i hi hin hI ih => ?_)) ⟨rfl, rfl, rfl, rfl, rfl, rfl, trivial⟩
  have hv : i < n → 0 ≤ V b i ∧ V b i < 128 := hby i hi
  have hs : i < n → ixN (V b) ch (n - i).toNat i = if V b i = ch then i else ixN (V b) ch (n - (i + 1)).toNat (i + 1) := fun q => by
    rw [show ((n : Int) - i).toNat = ((n : Int) - (i + 1)).toNat + 1 by omega]
    rfl
  refine ev_iload (X := M_J1_indexOfChar_4cfef) (pc := 7) dJ1_indexOfChar_4cfef_7 rfl ?_
  refine ev_iload_n (X := M_J1_indexOfChar_4cfef) (pc := 9) dJ1_indexOfChar_4cfef_9 rfl ?_
  refine ev_icmp_ge (X := M_J1_indexOfChar_4cfef) (pc := 10) (tgt := 31) dJ1_indexOfChar_4cfef_10 (by decide) (by omega) (by omega) (fun h10 => ?_) (fun h10 => ?_)
  · refine ev_iconst (X := M_J1_indexOfChar_4cfef) (pc := 31) dJ1_indexOfChar_4cfef_31 ?_
    refine ev_iret (X := M_J1_indexOfChar_4cfef) (pc := 32) dJ1_indexOfChar_4cfef_32 rfl ?_
    refine ⟨?_, rfl, rfl⟩
    rw [hI, show ((n : Int) - i).toNat = 0 by omega]
    rfl
  · obtain ⟨v0, v1⟩ := hv (by omega)
    have hs2 := hs (by omega)
    refine ev_aload_n (X := M_J1_indexOfChar_4cfef) (pc := 13) dJ1_indexOfChar_4cfef_13 rfl ?_
    refine ev_iload (X := M_J1_indexOfChar_4cfef) (pc := 14) dJ1_indexOfChar_4cfef_14 rfl ?_
    refine ev_baload (X := M_J1_indexOfChar_4cfef) (pc := 16) dJ1_indexOfChar_4cfef_16 hb (by omega) ?_
    refine ev_iload (X := M_J1_indexOfChar_4cfef) (pc := 17) dJ1_indexOfChar_4cfef_17 rfl ?_
    refine ev_icmp_ne (X := M_J1_indexOfChar_4cfef) (pc := 19) (tgt := 25) dJ1_indexOfChar_4cfef_19 (by decide) (by omega) (by omega) (fun h19 => ?_) (fun h19 => ?_)
    · have hne : V b i ≠ ch := fun z => h19 (by rw [hbb, z, if_pos (by omega)])
      rw [if_neg hne] at hs2
      refine ev_iincL (X := M_J1_indexOfChar_4cfef) (pc := 25) (ls' := [_, _, _, _, _, _]) dJ1_indexOfChar_4cfef_25 rfl (by decide) rfl ?_
      refine ev_goto (X := M_J1_indexOfChar_4cfef) (pc := 28) (tgt := 7) dJ1_indexOfChar_4cfef_28 (by decide) ?_
      exact ih (by omega) (by rw [hI, hs2])
    · refine ev_iload (X := M_J1_indexOfChar_4cfef) (pc := 22) dJ1_indexOfChar_4cfef_22 rfl ?_
      refine ev_iret (X := M_J1_indexOfChar_4cfef) (pc := 24) dJ1_indexOfChar_4cfef_24 rfl ?_
      have he : V b i = ch := by
        rw [hbb] at h19
        by_cases q : ch < 128
        · rw [if_pos q] at h19; exact h19
        · rw [if_neg q] at h19; omega
      refine ⟨?_, rfl, rfl⟩
      rw [hI, hs2, if_pos he]
theorem j_indexOf4 {γ : Gh} {K : Sk} {V : Mm} {b n : Nat} {ch : Int} (hb : K.1 b = (4, n)) (hn : n < 100) (hn0 : 0 < n) (hby : ∀ i : Int, 0 ≤ i → i < n → 0 ≤ V b i ∧ V b i < 128) (hch : 0 ≤ ch ∧ ch < 256) : Call γ M_J1_indexOf_4cfef 1 0 0 [vR b, vI ch, vI 0, vI n] K V (Rt (some (vI (ixF (V b) n ch))) K V) := by
  refine call_of (by decide +kernel) (by intro v hv; simp only [List.mem_cons, List.not_mem_nil, or_false] at hv; rcases hv with rfl | rfl | rfl | rfl <;> exact fun q => by cases q) (Nat.le_of_ble_eq_true rfl) ?_
  refine ev_lsE (ls' := [_, _, _, _]) rfl ?_
  refine ev_iload_n (X := M_J1_indexOf_4cfef) (pc := 0) dJ1_indexOf_4cfef_0 rfl ?_
  refine ev_staticR (X := M_J1_indexOf_4cfef) (Y := M_J1_canEncode_9a6ad) (pc := 1) dJ1_indexOf_4cfef_1 mk_J1_canEncode_9a6ad kw_539 kw_540 (j_canEncode hch) rfl (by decide) rfl (Nat.le_of_ble_eq_true rfl) (Nat.zero_add _) (Nat.zero_add _) ?_
  refine ev_if_ne (X := M_J1_indexOf_4cfef) (pc := 4) (tgt := 9) dJ1_indexOf_4cfef_4 (by decide) (by decide) (fun h4 => ?_) (fun h4 => ?_)
  · refine ev_iload_n (X := M_J1_indexOf_4cfef) (pc := 9) dJ1_indexOf_4cfef_9 rfl ?_
    refine ev_iconst (X := M_J1_indexOf_4cfef) (pc := 10) dJ1_indexOf_4cfef_10 ?_
    refine ev_mmax (X := M_J1_indexOf_4cfef) (pc := 11) dJ1_indexOf_4cfef_11 kw_542 kw_54 kw_5 kw_55 (by decide) (Nat.le_of_ble_eq_true rfl) (by decide) (by decide) ?_
    rw [if_neg (Int.lt_irrefl _)]
    refine ev_istore_nL (X := M_J1_indexOf_4cfef) (pc := 14) (ls' := [_, _, _, _]) dJ1_indexOf_4cfef_14 (by decide) rfl ?_
    refine ev_iload_n (X := M_J1_indexOf_4cfef) (pc := 15) dJ1_indexOf_4cfef_15 rfl ?_
    refine ev_aload_n (X := M_J1_indexOf_4cfef) (pc := 16) dJ1_indexOf_4cfef_16 rfl ?_
    refine ev_alen (X := M_J1_indexOf_4cfef) (pc := 17) dJ1_indexOf_4cfef_17 hb (by decide) (by decide) ?_
    refine ev_mmin (X := M_J1_indexOf_4cfef) (pc := 18) dJ1_indexOf_4cfef_18 kw_543 kw_544 kw_5 kw_545 (by decide) (Nat.le_of_ble_eq_true rfl) (by omega) (by omega) ?_
    rw [if_neg (Int.lt_irrefl _)]
    refine ev_istore_nL (X := M_J1_indexOf_4cfef) (pc := 21) (ls' := [_, _, _, _]) dJ1_indexOf_4cfef_21 (by decide) rfl ?_
    refine ev_iload_n (X := M_J1_indexOf_4cfef) (pc := 22) dJ1_indexOf_4cfef_22 rfl ?_
    refine ev_iload_n (X := M_J1_indexOf_4cfef) (pc := 23) dJ1_indexOf_4cfef_23 rfl ?_
    refine ev_icmp_lt (X := M_J1_indexOf_4cfef) (pc := 24) (tgt := 29) dJ1_indexOf_4cfef_24 (by decide) (by omega) (by omega) (fun h24 => ?_) (fun h24 => ?_)
    · refine ev_aload_n (X := M_J1_indexOf_4cfef) (pc := 29) dJ1_indexOf_4cfef_29 rfl ?_
      refine ev_iload_n (X := M_J1_indexOf_4cfef) (pc := 30) dJ1_indexOf_4cfef_30 rfl ?_
      refine ev_iload_n (X := M_J1_indexOf_4cfef) (pc := 31) dJ1_indexOf_4cfef_31 rfl ?_
      refine ev_iload_n (X := M_J1_indexOf_4cfef) (pc := 32) dJ1_indexOf_4cfef_32 rfl ?_
      refine ev_staticR (X := M_J1_indexOf_4cfef) (Y := M_J1_indexOfChar_4cfef) (pc := 33) dJ1_indexOf_4cfef_33 mk_J1_indexOfChar_4cfef kw_546 kw_547 (j_indexOfChar hb hn hby hch) rfl (by decide) rfl (Nat.le_of_ble_eq_true rfl) (Nat.zero_add _) (Nat.zero_add _) ?_
      refine ev_iret (X := M_J1_indexOf_4cfef) (pc := 36) dJ1_indexOf_4cfef_36 rfl ?_
      exact ⟨rfl, rfl, rfl⟩
    · exact absurd h24 (by omega)
  · exact absurd h4 (by decide)
theorem j_indexOf2 {γ : Gh} {K : Sk} {V : Mm} {a b n : Nat} {ch : Int} (h : StrAt K V a b n) (hch : 0 ≤ ch ∧ ch < 256) : Call γ M_J0_indexOf_7cf53 2 0 0 [vR a, vI ch, vI 0] K V (Rt (some (vI (ixF (V b) n ch))) K V) := by
  refine call_of (by decide +kernel) (by intro v hv; simp only [List.mem_cons, List.not_mem_nil, or_false] at hv; rcases hv with rfl | rfl | rfl <;> exact fun q => by cases q) (Nat.le_of_ble_eq_true rfl) ?_
  refine ev_lsE (ls' := [_, _, _]) rfl ?_
  have h' := h
  obtain ⟨hs, hc, hr, hb, hn, hn2, hby⟩ := h
  refine ev_aload_n (X := M_J0_indexOf_7cf53) (pc := 0) dJ0_indexOf_7cf53_0 rfl ?_
  refine ev_virtSR (X := M_J0_indexOf_7cf53) (Y := M_J0_isLatin1_aae02) (pc := 1) dJ0_indexOf_7cf53_1 mk_J0_isLatin1_aae02 kw_522 kw_523 kw_524 hs (j_isLatin1 hs hc) rfl (by decide) rfl (Nat.le_of_ble_eq_true rfl) (Nat.zero_add _) (Nat.zero_add _) ?_
  refine ev_if_eq (X := M_J0_indexOf_7cf53) (pc := 4) (tgt := 23) dJ0_indexOf_7cf53_4 (by decide) (by decide) (fun h4 => ?_) (fun h4 => ?_)
  · exact absurd h4 (by decide)
  · refine ev_aload_n (X := M_J0_indexOf_7cf53) (pc := 7) dJ0_indexOf_7cf53_7 rfl ?_
    refine ev_getSvE (X := M_J0_indexOf_7cf53) (pc := 8) dJ0_indexOf_7cf53_8 kw_1470 hs hr ?_
    refine ev_iload_n (X := M_J0_indexOf_7cf53) (pc := 11) dJ0_indexOf_7cf53_11 rfl ?_
    refine ev_iload_n (X := M_J0_indexOf_7cf53) (pc := 12) dJ0_indexOf_7cf53_12 rfl ?_
    refine ev_aload_n (X := M_J0_indexOf_7cf53) (pc := 13) dJ0_indexOf_7cf53_13 rfl ?_
    refine ev_virtSR (X := M_J0_indexOf_7cf53) (Y := M_J0_length_8abf5) (pc := 14) dJ0_indexOf_7cf53_14 mk_J0_length_8abf5 kw_528 kw_529 kw_530 hs (j_length h') rfl (by decide) rfl (Nat.le_of_ble_eq_true rfl) (Nat.zero_add _) (Nat.zero_add _) ?_
    refine ev_staticR (X := M_J0_indexOf_7cf53) (Y := M_J1_indexOf_4cfef) (pc := 17) dJ0_indexOf_7cf53_17 mk_J1_indexOf_4cfef kw_536 kw_537 (j_indexOf4 hb hn2 hn hby hch) rfl (by decide) rfl (Nat.le_of_ble_eq_true rfl) (Nat.zero_add _) (Nat.zero_add _) ?_
    refine ev_goto (X := M_J0_indexOf_7cf53) (pc := 20) (tgt := 36) dJ0_indexOf_7cf53_20 (by decide) ?_
    refine ev_iret (X := M_J0_indexOf_7cf53) (pc := 36) dJ0_indexOf_7cf53_36 rfl ?_
    exact ⟨rfl, rfl, rfl⟩
theorem j_indexOf {γ : Gh} {K : Sk} {V : Mm} {a b n : Nat} {ch : Int} (h : StrAt K V a b n) (hch : 0 ≤ ch ∧ ch < 256) : Call γ M_J0_indexOf_0f7a4 3 0 0 [vR a, vI ch] K V (Rt (some (vI (ixF (V b) n ch))) K V) := by
  refine call_of (by decide +kernel) (by intro v hv; simp only [List.mem_cons, List.not_mem_nil, or_false] at hv; rcases hv with rfl | rfl <;> exact fun q => by cases q) (Nat.le_of_ble_eq_true rfl) ?_
  refine ev_lsE (ls' := [_, _]) rfl ?_
  have hs := h.1
  refine ev_aload_n (X := M_J0_indexOf_0f7a4) (pc := 0) dJ0_indexOf_0f7a4_0 rfl ?_
  refine ev_iload_n (X := M_J0_indexOf_0f7a4) (pc := 1) dJ0_indexOf_0f7a4_1 rfl ?_
  refine ev_iconst (X := M_J0_indexOf_0f7a4) (pc := 2) dJ0_indexOf_0f7a4_2 ?_
  refine ev_virtSR (X := M_J0_indexOf_0f7a4) (Y := M_J0_indexOf_7cf53) (pc := 3) dJ0_indexOf_0f7a4_3 mk_J0_indexOf_7cf53 kw_518 kw_519 kw_520 hs (j_indexOf2 h hch) rfl (by decide) rfl (Nat.le_of_ble_eq_true rfl) (Nat.zero_add _) (Nat.zero_add _) ?_
  refine ev_iret (X := M_J0_indexOf_0f7a4) (pc := 6) dJ0_indexOf_0f7a4_6 rfl ?_
  exact ⟨rfl, rfl, rfl⟩
theorem c_isAmong {γ : Gh} {K : Sk} {V : Mm} {a b n : Nat} {s : Int} (h : StrAt K V a b n) (hs : -1 ≤ s ∧ s < 256) : Call γ M_X8_isAmong 4 0 0 [vI s, vR a] K V (Rt (some (vI (if 0 < s ∧ 0 ≤ ixF (V b) n s then 1 else 0))) K V) := by
  refine call_of (by decide +kernel) (by intro v hv; simp only [List.mem_cons, List.not_mem_nil, or_false] at hv; rcases hv with rfl | rfl <;> exact fun q => by cases q) (Nat.le_of_ble_eq_true rfl) ?_
  refine ev_lsE (ls' := [_, _]) rfl ?_
  have hT := h.1
  have hr := ixN_r (f := V b) (ch := s) n 0 (by decide)
  have hr2 : -1 ≤ ixF (V b) n s ∧ ixF (V b) n s < 0 + n := hr
  have hn := h.2.2.2.2.2.1
  refine ev_iload_n (X := M_X8_isAmong) (pc := 0) dX8_isAmong_0 rfl ?_
  refine ev_if_le (X := M_X8_isAmong) (pc := 1) (tgt := 17) dX8_isAmong_1 (by decide) (by omega) (fun h1 => ?_) (fun h1 => ?_)
  · refine ev_iconst (X := M_X8_isAmong) (pc := 17) dX8_isAmong_17 ?_
    refine ev_bret (X := M_X8_isAmong) (pc := 18) dX8_isAmong_18 rfl (by omega) ?_
    refine ⟨?_, rfl, rfl⟩
    first
      | rw [if_pos ⟨by omega, by omega⟩]
      | rw [if_neg (fun q => by omega)]
  · refine ev_aload_n (X := M_X8_isAmong) (pc := 4) dX8_isAmong_4 rfl ?_
    refine ev_iload_n (X := M_X8_isAmong) (pc := 5) dX8_isAmong_5 rfl ?_
    refine ev_i2c (X := M_X8_isAmong) (pc := 6) dX8_isAmong_6 ?_
    rw [i2c_id (by omega)]
    refine ev_virtSR (X := M_X8_isAmong) (Y := M_J0_indexOf_0f7a4) (pc := 7) dX8_isAmong_7 mk_J0_indexOf_0f7a4 kw_514 kw_515 kw_516 hT (j_indexOf h (by omega)) rfl (by decide) rfl (Nat.le_of_ble_eq_true rfl) (Nat.zero_add _) (Nat.zero_add _) ?_
    refine ev_if_lt (X := M_X8_isAmong) (pc := 10) (tgt := 17) dX8_isAmong_10 (by decide) (by omega) (fun h10 => ?_) (fun h10 => ?_)
    · refine ev_iconst (X := M_X8_isAmong) (pc := 17) dX8_isAmong_17 ?_
      refine ev_bret (X := M_X8_isAmong) (pc := 18) dX8_isAmong_18 rfl (by omega) ?_
      refine ⟨?_, rfl, rfl⟩
      first
        | rw [if_pos ⟨by omega, by omega⟩]
        | rw [if_neg (fun q => by omega)]
    · refine ev_iconst (X := M_X8_isAmong) (pc := 13) dX8_isAmong_13 ?_
      refine ev_goto (X := M_X8_isAmong) (pc := 14) (tgt := 18) dX8_isAmong_14 (by decide) ?_
      refine ev_bret (X := M_X8_isAmong) (pc := 18) dX8_isAmong_18 rfl (by omega) ?_
      refine ⟨?_, rfl, rfl⟩
      first
        | rw [if_pos ⟨by omega, by omega⟩]
        | rw [if_neg (fun q => by omega)]
