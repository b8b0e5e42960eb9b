/-! ===== what it can have been ===== -/
abbrev hitP (C : Int → Int) (F : Int) (U : Int → Int) (s p : Int) : Prop := nx C F s p ≠ -1 ∧ U (nx C F s p) = 1
abbrev hit (C : Int → Int) (F : Int) (U : Int → Int) (s : Int) : Prop := hitP C F U s 0 ∨ hitP C F U s 1 ∨ hitP C F U s 2 ∨ hitP C F U s 3 ∨ hitP C F U s 4 ∨ hitP C F U s 5
theorem hit_of {C : Int → Int} {F : Int} {U : Int → Int} {s p : Int} (hp : 0 ≤ p ∧ p < 6) (h : hitP C F U s p) : hit C F U s := by
  rcases (show p = 0 ∨ p = 1 ∨ p = 2 ∨ p = 3 ∨ p = 4 ∨ p = 5 by omega) with z | z | z | z | z | z <;> subst z
  · exact Or.inl h
  · exact Or.inr (Or.inl h)
  · exact Or.inr (Or.inr (Or.inl h))
  · exact Or.inr (Or.inr (Or.inr (Or.inl h)))
  · exact Or.inr (Or.inr (Or.inr (Or.inr (Or.inl h))))
  · exact Or.inr (Or.inr (Or.inr (Or.inr (Or.inr h))))
theorem hit_no {C : Int → Int} {F : Int} {U : Int → Int} {s : Int} (h : ∀ p, 0 ≤ p → p < 6 → ¬ hitP C F U s p) : ¬ hit C F U s := by
  rintro (z | z | z | z | z | z)
  · exact h 0 (by decide) (by decide) z
  · exact h 1 (by decide) (by decide) z
  · exact h 2 (by decide) (by decide) z
  · exact h 3 (by decide) (by decide) z
  · exact h 4 (by decide) (by decide) z
  · exact h 5 (by decide) (by decide) z
def wbK (C : Int → Int) (F s0 : Int) : Nat → Int → Int
  | 0 => fun t => if t = s0 then 1 else 0
  | k + 1 => fun t => if isSt t ∧ hit C F (wbK C F s0 k) t then 1 else 0
theorem wbK_01 {C : Int → Int} {F s0 : Int} : ∀ (k : Nat) (t : Int), wbK C F s0 k t = 0 ∨ wbK C F s0 k t = 1
  | 0, t => by
    show (if t = s0 then (1 : Int) else 0) = 0 ∨ (if t = s0 then (1 : Int) else 0) = 1
    split <;> omega
  | k + 1, t => by
    show (if isSt t ∧ hit C F (wbK C F s0 k) t then (1 : Int) else 0) = 0 ∨ (if isSt t ∧ hit C F (wbK C F s0 k) t then (1 : Int) else 0) = 1
    split <;> omega
theorem wbK_off {C : Int → Int} {F s0 t : Int} (hs : isSt s0) (ht : ¬ isSt t) (k : Nat) : wbK C F s0 k t = 0 := by
  cases k with
  | zero =>
    show (if t = s0 then (1 : Int) else 0) = 0
    rw [if_neg (fun z => ht (by rw [z]; exact hs))]
  | succ k =>
    show (if isSt t ∧ hit C F (wbK C F s0 k) t then (1 : Int) else 0) = 0
    rw [if_neg (fun z => ht z.1)]
theorem Sm_01 {f : Int → Int} (h : ∀ t, f t = 0 ∨ f t = 1) : ∀ n : Nat, 0 ≤ Sm f n ∧ Sm f n ≤ n
  | 0 => ⟨Int.le_refl 0, Int.le_refl 0⟩
  | n + 1 => by
    have := Sm_01 h n
    have := h (stF n)
    show 0 ≤ Sm f n + f (stF n) ∧ Sm f n + f (stF n) ≤ ((n + 1 : Nat) : Int)
    omega
/-- the least among the last n places -/
def lD (f : Int → Int) : Nat → Int
  | 0 => -1
  | n + 1 => if f (stF (455 - ((n + 1 : Nat) : Int))) = 1 then stF (455 - ((n + 1 : Nat) : Int)) else lD f n
theorem lD_s {f : Int → Int} {i : Int} (h : 0 ≤ i ∧ i < 455) : lD f (455 - i).toNat = if f (stF i) = 1 then stF i else lD f (455 - (i + 1)).toNat := by
  rw [show (455 - i).toNat = (455 - (i + 1)).toNat + 1 by omega]
  show (if f (stF (455 - (((455 - (i + 1)).toNat + 1 : Nat) : Int))) = 1 then stF (455 - (((455 - (i + 1)).toNat + 1 : Nat) : Int)) else lD f (455 - (i + 1)).toNat) = _
  rw [show (455 : Int) - (((455 - (i + 1)).toNat + 1 : Nat) : Int) = i by omega]
theorem lD_r {f : Int → Int} : ∀ n : Nat, n ≤ 455 → lD f n = -1 ∨ isSt (lD f n)
  | 0, _ => Or.inl rfl
  | n + 1, hn => by
    show (if f (stF (455 - ((n + 1 : Nat) : Int))) = 1 then stF (455 - ((n + 1 : Nat) : Int)) else lD f n) = -1 ∨ isSt (if f (stF (455 - ((n + 1 : Nat) : Int))) = 1 then stF (455 - ((n + 1 : Nat) : Int)) else lD f n)
    split
    · exact Or.inr (stF_at (i := 455 - ((n + 1 : Nat) : Int)) (by omega)).1
    · exact lD_r n (by omega)
def MK (K : Sk) (sa sb : Nat) : Prop := K.2.1 101 7 = sa ∧ K.2.1 101 8 = sb ∧ ((sa = 123 ∧ sb = 124) ∨ (sa = 124 ∧ sb = 123))
theorem Lay.marks {K : Sk} (h : Lay K) : ∃ sa sb, MK K sa sb := by
  rcases h.2.2.1 with ⟨a, b⟩ | ⟨a, b⟩
  · exact ⟨123, 124, a, b, Or.inl ⟨rfl, rfl⟩⟩
  · exact ⟨124, 123, a, b, Or.inr ⟨rfl, rfl⟩⟩
theorem MK.sh {K : Sk} {sa sb : Nat} (hL : Lay K) (h : MK K sa sb) : K.1 sa = (1, 455) ∧ K.1 sb = (1, 455) ∧ 100 ≤ sa ∧ 100 ≤ sb := by
  rcases h.2.2 with ⟨a, b⟩ | ⟨a, b⟩ <;> subst a <;> subst b
  · exact ⟨lS_123 hL, lS_124 hL, by decide, by decide⟩
  · exact ⟨lS_124 hL, lS_123 hL, by decide, by decide⟩
theorem MK.swap {K : Sk} {sa sb : Nat} (hL : Lay K) (h : MK K sa sb) : KS K (wrR (wrR K 101 7 sb) 101 8 sa) ∧ MK (wrR (wrR K 101 7 sb) 101 8 sa) sb sa := by
  have hab := h.2.2
  have e9 : (wrR (wrR K 101 7 sb) 101 8 sa).2.1 101 7 = sb := by rw [wrR_ne (by omega), wrR_self]
  have e10 : (wrR (wrR K 101 7 sb) 101 8 sa).2.1 101 8 = sa := wrR_self
  have eo : ∀ c j, ¬ (c = 101 ∧ 7 ≤ j ∧ j ≤ 8) → (wrR (wrR K 101 7 sb) 101 8 sa).2.1 c j = K.2.1 c j := fun c j z => by rw [wrR_ne (by omega), wrR_ne (by omega)]
  have hS : MK (wrR (wrR K 101 7 sb) 101 8 sa) sb sa := ⟨e9, e10, by omega⟩
  refine ⟨⟨rfl, rfl, fun c j z => eo c j (by omega), hL.1, fun q hq => ?_, ?_, ?_, hL.2.2.2.2⟩, hS⟩
  · have hq2 := hL.2.1 q hq
    rw [eo q.1 q.2.1 ?_]
    · exact hq2
    · intro z
      have hall : ∀ q ∈ layR, ¬ (q.1 = 101 ∧ 7 ≤ q.2.1 ∧ q.2.1 ≤ 8) := by decide +kernel
      exact hall q hq z
  · rw [e9, e10]
    omega
  · have := hL.2.2.2.1
    rw [eo 101 9 (by omega), eo 101 10 (by omega)]
    exact this
theorem c_leadsToMark {γ : Gh} {K : Sk} {V : Mm} {C : Int → Int} {F q : Int} {U : Int → Int} {sa sb : Nat} (h : SrP K V C F) (hM : MK K sa sb) (hq : 0 ≤ q ∧ q < 455) (hU : ∀ j, 0 ≤ j ∧ j < 455 → V sa j = U (stF j)) (hU01 : ∀ t, U t = 0 ∨ U t = 1) : Call γ M_X6_leadsToMark 4 0 0 [vR 101, vI q] K V (Qx (some (vI (if hit C F U (stF q) then 1 else 0))) K (fun W => fr1 119 V W ∧ COk C F (W 119))) := by
  refine call_of (by decide +kernel) (by intro v hv; simp only [List.mem_cons, List.not_mem_nil, or_false] at hv; rcases hv with rfl | rfl <;> exact fun q => by cases q) (Nat.le_of_ble_eq_true rfl) ?_
  refine ev_lsE (ls' := [_, _, _, _]) rfl ?_
  have hL := h.1
  obtain ⟨z1, z2, z3, z4⟩ := hM.sh hL
  have hab := hM.2.2
  refine ev_iconst (X := M_X6_leadsToMark) (pc := 0) dX6_leadsToMark_0 ?_
  refine ev_istore_nL (X := M_X6_leadsToMark) (pc := 1) (ls' := [_, _, _, _]) dX6_leadsToMark_1 (by decide) rfl ?_
  refine ev_weak (ev_while (σ := Int × Mm) (fun s => 0 ≤ s.1 ∧ s.1 ≤ 6 ∧ fr1 119 V s.2 ∧ COk C F (s.2 119) ∧ ∀ p, 0 ≤ p → p < s.1 → ¬ hitP C F U (stF q) p) (fun s => (6 - s.1).toNat) (fun s => [vR 101, vI q, vI s.1, vU]) (fun _ => K) (fun s => s.2) ?_ (0, V) ⟨Int.le_refl 0, by show (0 : Int) ≤ 6; decide, fun _ _ => rfl, h.2.2.2.2.2.2.2, fun p h0 h1 => by change p < 0 at h1; omega⟩) ⟨rfl, rfl, rfl, trivial⟩
  rintro ⟨p, W⟩ ⟨p0, p1, w1, w2, w3⟩ ih
  dsimp only at p0 p1 w1 w2 w3 ih ⊢
  have hS : SrP K W C F := h.frS hL (fun c z => w1 c (by omega)) w2
  have hC := hS.2.2.2.1
  have hst := (stF_at hq).1
  refine ev_iload_n (X := M_X6_leadsToMark) (pc := 2) dX6_leadsToMark_2 rfl ?_
  refine ev_bipush (X := M_X6_leadsToMark) (pc := 3) dX6_leadsToMark_3 (by decide) ?_
  refine ev_icmp_ge (X := M_X6_leadsToMark) (pc := 5) (tgt := 38) dX6_leadsToMark_5 (by decide) (by omega) (by omega) (fun h5 => ?_) (fun h5 => ?_)
  · refine ev_iconst (X := M_X6_leadsToMark) (pc := 38) dX6_leadsToMark_38 ?_
    refine ev_bret (X := M_X6_leadsToMark) (pc := 39) dX6_leadsToMark_39 rfl (by omega) ?_
    rw [if_neg (hit_no (fun p h0 h1 => w3 p h0 (by omega)))]
    exact ⟨rfl, rfl, w1, w2⟩
  · refine ev_aload_n (X := M_X6_leadsToMark) (pc := 8) dX6_leadsToMark_8 rfl ?_
    refine ev_iload_n (X := M_X6_leadsToMark) (pc := 9) dX6_leadsToMark_9 rfl ?_
    refine ev_iload_n (X := M_X6_leadsToMark) (pc := 10) dX6_leadsToMark_10 rfl ?_
    refine ev_virtX (X := M_X6_leadsToMark) (Y := M_X6_lead) (pc := 11) (ci := 6) dX6_leadsToMark_11 mk_X6_lead rfl kw_669 kw_670 kw_671 (lO_101 hL) (c_lead hS hq (by omega)) rfl (by decide) rfl (Nat.le_of_ble_eq_true rfl) (Nat.zero_add _) (Nat.zero_add _) (fun W2 hW2 => ?_)
    have hld := ld_r (F := F) hC hq (p := p) (by omega)
    have hf : fr1 119 V W2 := fun c y => by rw [hW2.1 c y]; exact w1 c y
    refine ev_istore_nL (X := M_X6_leadsToMark) (pc := 14) (ls' := [_, _, _, _]) dX6_leadsToMark_14 (by decide) rfl ?_
    refine ev_iload_n (X := M_X6_leadsToMark) (pc := 15) dX6_leadsToMark_15 rfl ?_
    refine ev_iconst (X := M_X6_leadsToMark) (pc := 16) dX6_leadsToMark_16 ?_
    refine ev_icmp_eq (X := M_X6_leadsToMark) (pc := 17) (tgt := 32) dX6_leadsToMark_17 (by decide) (by omega) (by omega) (fun h17 => ?_) (fun h17 => ?_)
    · have hno : ¬ hitP C F U (stF q) p := fun z => by
        unfold ld at h17
        rw [if_neg z.1] at h17
        have := (pl_st (nx_st hC (by omega) hst z.1)).1
        omega
      refine ev_iincL (X := M_X6_leadsToMark) (pc := 32) (ls' := [_, _, _, _]) dX6_leadsToMark_32 rfl (by decide) rfl ?_
      refine ev_goto (X := M_X6_leadsToMark) (pc := 35) (tgt := 2) dX6_leadsToMark_35 (by decide) ?_
      refine ev_weak (ih (p + 1, W2) ⟨by omega, by omega, hf, hW2.2, fun p' h0 h1 => ?_⟩ (by show (6 - (p + 1)).toNat < (6 - p).toNat; omega)) ⟨rfl, rfl, rfl, trivial⟩
      change p' < p + 1 at h1
      by_cases z : p' = p
      · rw [z]; exact hno
      · exact w3 p' h0 (by omega)
    · have hn : ¬ nx C F (stF q) p = -1 := fun z => h17 (by unfold ld; rw [if_pos z])
      have hlde : ld C F q p = pl (nx C F (stF q) p) := by unfold ld; rw [if_neg hn]
      obtain ⟨g0, g1, g2⟩ := pl_st (nx_st hC (by omega) hst hn)
      have hW2e : W2 sa (ld C F q p) = U (nx C F (stF q) p) := by rw [hf sa (by omega), hlde, hU _ ⟨g0, g1⟩, g2]
      have h01 := hU01 (nx C F (stF q) p)
      refine ev_aload_n (X := M_X6_leadsToMark) (pc := 20) dX6_leadsToMark_20 rfl ?_
      refine ev_getRe (X := M_X6_leadsToMark) (pc := 21) dX6_leadsToMark_21 fl_X6_34_6 (lO_101 hL) rfl hM.1 ?_
      refine ev_iload_n (X := M_X6_leadsToMark) (pc := 24) dX6_leadsToMark_24 rfl ?_
      refine ev_ialoadE (X := M_X6_leadsToMark) (pc := 25) dX6_leadsToMark_25 z1 (by omega) (hW2e) ?_
      refine ev_iconst (X := M_X6_leadsToMark) (pc := 26) dX6_leadsToMark_26 ?_
      refine ev_icmp_ne (X := M_X6_leadsToMark) (pc := 27) (tgt := 32) dX6_leadsToMark_27 (by decide) (by omega) (by decide) (fun h27 => ?_) (fun h27 => ?_)
      · have hno : ¬ hitP C F U (stF q) p := fun z => h27 z.2
        refine ev_iincL (X := M_X6_leadsToMark) (pc := 32) (ls' := [_, _, _, _]) dX6_leadsToMark_32 rfl (by decide) rfl ?_
        refine ev_goto (X := M_X6_leadsToMark) (pc := 35) (tgt := 2) dX6_leadsToMark_35 (by decide) ?_
        refine ev_weak (ih (p + 1, W2) ⟨by omega, by omega, hf, hW2.2, fun p' h0 h1 => ?_⟩ (by show (6 - (p + 1)).toNat < (6 - p).toNat; omega)) ⟨rfl, rfl, rfl, trivial⟩
        change p' < p + 1 at h1
        by_cases z : p' = p
        · rw [z]; exact hno
        · exact w3 p' h0 (by omega)
      · have hye : hit C F U (stF q) := hit_of (p := p) (by omega) ⟨hn, h27⟩
        refine ev_iconst (X := M_X6_leadsToMark) (pc := 30) dX6_leadsToMark_30 ?_
        refine ev_bret (X := M_X6_leadsToMark) (pc := 31) dX6_leadsToMark_31 rfl (by decide) ?_
        rw [if_pos hye]
        exact ⟨rfl, rfl, hf, hW2.2⟩
def CB (C : Int → Int) (F s0 : Int) (k : Nat) (K : Sk) (V : Mm) (K' : Sk) (W : Mm) : Prop := KS K K' ∧ frS V W ∧ W 155 = V 155 ∧ COk C F (W 119) ∧ ∃ sa sb, MK K' sa sb ∧ ∀ j, 0 ≤ j ∧ j < 455 → W sa j = wbK C F s0 k (stF j)
theorem c_goBack {γ : Gh} {K : Sk} {V : Mm} {C : Int → Int} {F s0 : Int} (h : SrP K V C F) (hs : isSt s0) (hn : V 102 4 = s0) {n : Nat} (hn6 : n ≤ 6) : Call γ M_X6_goBack 5 0 0 [vR 101, vI n] K V (Qg none (CB C F s0 n K V)) := by
  refine call_of (by decide +kernel) (by intro v hv; simp only [List.mem_cons, List.not_mem_nil, or_false] at hv; rcases hv with rfl | rfl <;> exact fun q => by cases q) (Nat.le_of_ble_eq_true rfl) ?_
  refine ev_lsE (ls' := [_, _, _, _]) rfl ?_
  have hL := h.1
  obtain ⟨a0, b0, hM⟩ := hL.marks
  obtain ⟨z1, z2, z3, z4⟩ := hM.sh hL
  have hab := hM.2.2
  have hps := pl_st hs
  have hC := h.2.2.2.1
  refine ev_aload_n (X := M_X6_goBack) (pc := 0) dX6_goBack_0 rfl ?_
  refine ev_getRe (X := M_X6_goBack) (pc := 1) dX6_goBack_1 fl_X6_34_6 (lO_101 hL) rfl hM.1 ?_
  refine ev_iconst (X := M_X6_goBack) (pc := 4) dX6_goBack_4 ?_
  refine ev_staticV (X := M_X6_goBack) (Y := M_J7_fill_53178) (pc := 5) dX6_goBack_5 mk_J7_fill_53178 kw_184 kw_185 (c_fillI (n := 455) z3 z1 (by decide)) rfl (by decide) rfl (Nat.le_of_ble_eq_true rfl) (Nat.zero_add _) (Nat.zero_add _) ?_
  refine ev_aload_n (X := M_X6_goBack) (pc := 8) dX6_goBack_8 rfl ?_
  refine ev_getRe (X := M_X6_goBack) (pc := 9) dX6_goBack_9 fl_X6_34_6 (lO_101 hL) rfl hM.1 ?_
  refine ev_aload_n (X := M_X6_goBack) (pc := 12) dX6_goBack_12 rfl ?_
  refine ev_getRe (X := M_X6_goBack) (pc := 13) dX6_goBack_13 fl_X6_12_6 (lO_101 hL) rfl (lR_101_0 hL) ?_
  refine ev_getIe (X := M_X6_goBack) (pc := 16) (ki := 4) dX6_goBack_16 fl_X6_78_2 (lO_102 hL) (by decide) rfl ((congrFun (setr_ne (show (102 : Nat) ≠ a0 by omega)) 4).trans hn) ?_
  refine ev_staticR (X := M_X6_goBack) (Y := M_X6_placeOf) (pc := 19) dX6_goBack_19 mk_X6_placeOf kw_659 kw_660 (c_placeOf hL (by unfold SV; rw [setr_ne (by omega), setr_ne (by omega), setr_ne (by omega)]; exact h.2.1) (by unfold SV2; rw [setr_ne (by omega), setr_ne (by omega)]; exact h.2.2.1) (isSt_lt hs)) rfl (by decide) rfl (Nat.le_of_ble_eq_true rfl) (Nat.zero_add _) (Nat.zero_add _) ?_
  refine ev_iconst (X := M_X6_goBack) (pc := 22) dX6_goBack_22 ?_
  refine ev_iastore (X := M_X6_goBack) (pc := 23) dX6_goBack_23 z3 z1 (by omega) ?_
  refine ev_iconst (X := M_X6_goBack) (pc := 24) dX6_goBack_24 ?_
  refine ev_istore_nL (X := M_X6_goBack) (pc := 25) (ls' := [_, _, _, _]) dX6_goBack_25 (by decide) rfl ?_
  refine ev_weak (ev_while (σ := Int × Sk × Mm) (fun s => 0 ≤ s.1 ∧ s.1 ≤ n ∧ CB C F s0 s.1.toNat K V s.2.1 s.2.2) (fun s => ((n : Int) - s.1).toNat) (fun s => [vR 101, vI n, vI s.1, vU]) (fun s => s.2.1) (fun s => s.2.2) ?_ (0, K, _) ⟨Int.le_refl 0, by show (0 : Int) ≤ n; omega, KS.rf hL, ?_, ?_, ?_, a0, b0, hM, ?_⟩) ⟨rfl, rfl, rfl, trivial⟩
  rotate_left
  · intro c z
    show wr (setr V a0 _) a0 _ _ c = V c
    rw [wr_off (by omega), setr_ne (by omega)]
  · show wr (setr V a0 _) a0 _ _ 155 = V 155
    rw [wr_off (by omega), setr_ne (by omega)]
  · show COk C F (wr (setr V a0 _) a0 _ _ 119)
    rw [wr_off (by omega), setr_ne (by omega)]
    exact h.2.2.2.2.2.2.2
  · intro j hj
    show wr (setr V a0 _) a0 (pl s0) 1 a0 j = (if stF j = s0 then (1 : Int) else 0)
    rw [wr_setr, setr_self]
    by_cases z : j = pl s0
    · rw [z, up_self, hps.2.2, if_pos rfl]
    · rw [up_ne z, if_neg (fun y => z (by rw [← y, (stF_at hj).2]))]
      unfold flr
      rw [if_pos ⟨hj.1, hj.2⟩]
  clear hM z1 z2 z3 z4 hab a0 b0
  rintro ⟨i, K1, W⟩ ⟨i0, i1, kS, wf, w155, wO, sa, sb, hM, wU⟩ ih
  dsimp only at i0 i1 kS wf w155 wO hM wU ih ⊢
  have hL1 := kS.2.2.2
  obtain ⟨z1, z2, z3, z4⟩ := hM.sh hL1
  have hab := hM.2.2
  refine ev_iload_n (X := M_X6_goBack) (pc := 26) dX6_goBack_26 rfl ?_
  refine ev_iload_n (X := M_X6_goBack) (pc := 27) dX6_goBack_27 rfl ?_
  refine ev_icmp_ge (X := M_X6_goBack) (pc := 28) (tgt := 89) dX6_goBack_28 (by decide) (by omega) (by omega) (fun h28 => ?_) (fun h28 => ?_)
  · refine ev_vret (X := M_X6_goBack) (pc := 89) dX6_goBack_89 rfl ?_
    have hi : i.toNat = n := by omega
    rw [hi] at wU
    exact ⟨rfl, kS, wf, w155, wO, sa, sb, hM, wU⟩
  · refine ev_iconst (X := M_X6_goBack) (pc := 31) dX6_goBack_31 ?_
    refine ev_istore_nL (X := M_X6_goBack) (pc := 32) (ls' := [_, _, _, _]) dX6_goBack_32 (by decide) rfl ?_
    refine ev_weak (ev_while (σ := Int × Mm) (fun s => 0 ≤ s.1 ∧ s.1 ≤ 455 ∧ frS V s.2 ∧ s.2 155 = V 155 ∧ COk C F (s.2 119) ∧ (∀ j, 0 ≤ j ∧ j < 455 → s.2 sa j = wbK C F s0 i.toNat (stF j)) ∧ ∀ j, 0 ≤ j ∧ j < s.1 → s.2 sb j = wbK C F s0 (i.toNat + 1) (stF j)) (fun s => (455 - s.1).toNat) (fun s => [vR 101, vI n, vI i, vI s.1]) (fun _ => K1) (fun s => s.2) ?_ (0, W) ⟨Int.le_refl 0, by show (0 : Int) ≤ 455; decide, wf, w155, wO, wU, fun j hj => by change 0 ≤ j ∧ j < 0 at hj; omega⟩) ⟨rfl, rfl, rfl, rfl, trivial⟩
    clear wf w155 wO wU W
    rintro ⟨q, W2⟩ ⟨q0, q1, wf, w155, wO, wU, wA⟩ ih2
    dsimp only at q0 q1 wf w155 wO wU wA ih2 ⊢
    have hS := h.frS hL1 wf wO
    refine ev_iload_n (X := M_X6_goBack) (pc := 33) dX6_goBack_33 rfl ?_
    refine ev_sipush (X := M_X6_goBack) (pc := 34) dX6_goBack_34 (by decide) ?_
    refine ev_icmp_ge (X := M_X6_goBack) (pc := 37) (tgt := 65) dX6_goBack_37 (by decide) (by omega) (by omega) (fun h37 => ?_) (fun h37 => ?_)
    · refine ev_aload_n (X := M_X6_goBack) (pc := 65) dX6_goBack_65 rfl ?_
      refine ev_getRe (X := M_X6_goBack) (pc := 66) dX6_goBack_66 fl_X6_34_6 (lO_101 (K := K1) hL1) rfl hM.1 ?_
      refine ev_astore_nL (X := M_X6_goBack) (pc := 69) (ls' := [_, _, _, _]) dX6_goBack_69 (by decide) rfl ?_
      refine ev_aload_n (X := M_X6_goBack) (pc := 70) dX6_goBack_70 rfl ?_
      refine ev_aload_n (X := M_X6_goBack) (pc := 71) dX6_goBack_71 rfl ?_
      refine ev_getRe (X := M_X6_goBack) (pc := 72) dX6_goBack_72 fl_X6_37_6 (lO_101 (K := K1) hL1) rfl hM.2.1 ?_
      refine ev_putR (X := M_X6_goBack) (pc := 75) (ki := 7) dX6_goBack_75 fl_X6_34_6 (by decide) (lO_101 (K := K1) hL1) (fun _ h q => by cases h; cases q) rfl rfl ?_
      refine ev_aload_n (X := M_X6_goBack) (pc := 78) dX6_goBack_78 rfl ?_
      refine ev_aload_n (X := M_X6_goBack) (pc := 79) dX6_goBack_79 rfl ?_
      refine ev_putR (X := M_X6_goBack) (pc := 80) (ki := 8) dX6_goBack_80 fl_X6_37_6 (by decide) (lO_101 (K := K1) hL1) (fun _ h q => by cases h; cases q) rfl rfl ?_
      refine ev_iincL (X := M_X6_goBack) (pc := 83) (ls' := [_, _, _, _]) dX6_goBack_83 rfl (by decide) rfl ?_
      refine ev_goto (X := M_X6_goBack) (pc := 86) (tgt := 26) dX6_goBack_86 (by decide) ?_
      refine ev_weak (ih (i + 1, _, W2) ⟨by omega, by omega, kS.tr (hM.swap hL1).1, wf, w155, wO, sb, sa, (hM.swap hL1).2, fun j hj => ?_⟩ (by show ((n : Int) - (i + 1)).toNat < ((n : Int) - i).toNat; omega)) ⟨rfl, rfl, rfl, trivial⟩
      show W2 sb j = wbK C F s0 (i + 1).toNat (stF j)
      rw [show (i + 1).toNat = i.toNat + 1 by omega]
      exact wA j (by omega)
    · refine ev_aload_n (X := M_X6_goBack) (pc := 40) dX6_goBack_40 rfl ?_
      refine ev_getRe (X := M_X6_goBack) (pc := 41) dX6_goBack_41 fl_X6_37_6 (lO_101 hL1) rfl hM.2.1 ?_
      refine ev_iload_n (X := M_X6_goBack) (pc := 44) dX6_goBack_44 rfl ?_
      refine ev_aload_n (X := M_X6_goBack) (pc := 45) dX6_goBack_45 rfl ?_
      refine ev_iload_n (X := M_X6_goBack) (pc := 46) dX6_goBack_46 rfl ?_
      refine ev_virtX (X := M_X6_goBack) (Y := M_X6_leadsToMark) (pc := 47) (ci := 6) dX6_goBack_47 mk_X6_leadsToMark rfl kw_793 kw_794 kw_795 (lO_101 hL1) (c_leadsToMark hS hM (by omega) wU (wbK_01 i.toNat)) rfl (by decide) rfl (Nat.le_of_ble_eq_true rfl) (Nat.zero_add _) (Nat.zero_add _) (fun W3 hW3 => ?_)
      have hfin : ∀ x, x = (if hit C F (wbK C F s0 i.toNat) (stF q) then (1 : Int) else 0) → Ev γ M_X6_goBack 5 0 0 33 [vR 101, vI n, vI i, vI (q + 1)] [] K1 (wr W3 sb q x) (Qg none (CB C F s0 n K V)) := fun x hx => by
        refine ih2 (q + 1, wr W3 sb q x) ⟨by omega, by omega, fun c z => ?_, ?_, ?_, fun j hj => ?_, fun j hj => ?_⟩ (by show (455 - (q + 1)).toNat < (455 - q).toNat; omega)
        · show wr W3 sb q x c = V c
          rw [wr_off (by omega), hW3.1 c (by omega)]
          exact wf c z
        · show wr W3 sb q x 155 = V 155
          rw [wr_off (by omega), hW3.1 155 (by omega)]
          exact w155
        · show COk C F (wr W3 sb q x 119)
          rw [wr_off (by omega)]
          exact hW3.2
        · show wr W3 sb q x sa j = _
          rw [wr_off (by omega), hW3.1 sa (by omega)]
          exact wU j hj
        · show wr W3 sb q x sb j = _
          change 0 ≤ j ∧ j < q + 1 at hj
          rw [wr_row, hW3.1 sb (by omega)]
          by_cases z : j = q
          · rw [z, up_self, hx]
            have hst := (stF_at (i := q) (by omega)).1
            show _ = if isSt (stF q) ∧ hit C F (wbK C F s0 i.toNat) (stF q) then (1 : Int) else 0
            by_cases y : hit C F (wbK C F s0 i.toNat) (stF q)
            · rw [if_pos y, if_pos ⟨hst, y⟩]
            · rw [if_neg y, if_neg (fun w => y w.2)]
          · rw [up_ne z]
            exact wA j (by omega)
      refine ev_if_eq (X := M_X6_goBack) (pc := 50) (tgt := 57) dX6_goBack_50 (by decide) (by split <;> decide) (fun h50 => ?_) (fun h50 => ?_)
      · have hx : (0 : Int) = if hit C F (wbK C F s0 i.toNat) (stF q) then (1 : Int) else 0 := h50.symm
        refine ev_iconst (X := M_X6_goBack) (pc := 57) dX6_goBack_57 ?_
        refine ev_iastore (X := M_X6_goBack) (pc := 58) dX6_goBack_58 z4 z2 (by omega) ?_
        refine ev_iincL (X := M_X6_goBack) (pc := 59) (ls' := [_, _, _, _]) dX6_goBack_59 rfl (by decide) rfl ?_
        refine ev_goto (X := M_X6_goBack) (pc := 62) (tgt := 33) dX6_goBack_62 (by decide) ?_
        exact ev_weak (hfin _ hx) ⟨rfl, rfl, rfl, rfl, trivial⟩
      · have hx : (1 : Int) = if hit C F (wbK C F s0 i.toNat) (stF q) then (1 : Int) else 0 := by
          by_cases y : hit C F (wbK C F s0 i.toNat) (stF q)
          · rw [if_pos y]
          · exact absurd (if_neg y) h50
        refine ev_iconst (X := M_X6_goBack) (pc := 53) dX6_goBack_53 ?_
        refine ev_goto (X := M_X6_goBack) (pc := 54) (tgt := 58) dX6_goBack_54 (by decide) ?_
        refine ev_iastore (X := M_X6_goBack) (pc := 58) dX6_goBack_58 z4 z2 (by omega) ?_
        refine ev_iincL (X := M_X6_goBack) (pc := 59) (ls' := [_, _, _, _]) dX6_goBack_59 rfl (by decide) rfl ?_
        refine ev_goto (X := M_X6_goBack) (pc := 62) (tgt := 33) dX6_goBack_62 (by decide) ?_
        exact ev_weak (hfin _ hx) ⟨rfl, rfl, rfl, rfl, trivial⟩
theorem c_originsInAll {γ : Gh} {K : Sk} {V : Mm} (hL : Lay K) {sa sb : Nat} (hM : MK K sa sb) {U : Int → Int} (hU : ∀ j, 0 ≤ j ∧ j < 455 → V sa j = U (stF j)) : Call γ M_X6_originsInAll 0 0 0 [vR 101] K V (Rt (some (vI (Sm U 455))) K V) := by
  refine call_of (by decide +kernel) (by intro v hv; simp only [List.mem_cons, List.not_mem_nil, or_false] at hv; rcases hv with rfl <;> exact fun q => by cases q) (Nat.le_of_ble_eq_true rfl) ?_
  refine ev_lsE (ls' := [_, _, _]) rfl ?_
  obtain ⟨z1, z2, z3, z4⟩ := hM.sh hL
  refine ev_iconst (X := M_X6_originsInAll) (pc := 0) dX6_originsInAll_0 ?_
  refine ev_istore_nL (X := M_X6_originsInAll) (pc := 1) (ls' := [_, _, _]) dX6_originsInAll_1 (by decide) rfl ?_
  refine ev_iconst (X := M_X6_originsInAll) (pc := 2) dX6_originsInAll_2 ?_
  refine ev_istore_nL (X := M_X6_originsInAll) (pc := 3) (ls' := [_, _, _]) dX6_originsInAll_3 (by decide) rfl ?_
  refine ev_weak (ev_count 455 0 (fun i => [vR 101, vI (Sm U i.toNat), vI i]) (by decide) ?_) ⟨rfl, rfl, rfl, trivial⟩
  intro i i0 i1 ih
  refine ev_iload_n (X := M_X6_originsInAll) (pc := 4) dX6_originsInAll_4 rfl ?_
  refine ev_sipush (X := M_X6_originsInAll) (pc := 5) dX6_originsInAll_5 (by decide) ?_
  refine ev_icmp_ge (X := M_X6_originsInAll) (pc := 8) (tgt := 26) dX6_originsInAll_8 (by decide) (by omega) (by omega) (fun h8 => ?_) (fun h8 => ?_)
  · refine ev_iload_n (X := M_X6_originsInAll) (pc := 26) dX6_originsInAll_26 rfl ?_
    refine ev_iret (X := M_X6_originsInAll) (pc := 27) dX6_originsInAll_27 rfl ?_
    have hi : i.toNat = 455 := by omega
    exact ⟨by rw [hi], rfl, rfl⟩
  · refine ev_iload_n (X := M_X6_originsInAll) (pc := 11) dX6_originsInAll_11 rfl ?_
    refine ev_aload_n (X := M_X6_originsInAll) (pc := 12) dX6_originsInAll_12 rfl ?_
    refine ev_getRe (X := M_X6_originsInAll) (pc := 13) dX6_originsInAll_13 fl_X6_34_6 (lO_101 hL) rfl hM.1 ?_
    refine ev_iload_n (X := M_X6_originsInAll) (pc := 16) dX6_originsInAll_16 rfl ?_
    refine ev_ialoadE (X := M_X6_originsInAll) (pc := 17) dX6_originsInAll_17 z1 (by omega) (hU i (by omega)) ?_
    refine ev_iadd (X := M_X6_originsInAll) (pc := 18) dX6_originsInAll_18 ?_
    refine ev_istore_nL (X := M_X6_originsInAll) (pc := 19) (ls' := [_, _, _]) dX6_originsInAll_19 (by decide) rfl ?_
    refine ev_iincL (X := M_X6_originsInAll) (pc := 20) (ls' := [_, _, _]) dX6_originsInAll_20 rfl (by decide) rfl ?_
    refine ev_goto (X := M_X6_originsInAll) (pc := 23) (tgt := 4) dX6_originsInAll_23 (by decide) ?_
    refine ev_weak (ih (by omega)) ⟨rfl, congrArg vI ?_, rfl, trivial⟩
    rw [show (i + 1).toNat = i.toNat + 1 by omega]
    show Sm U i.toNat + U (stF i) = Sm U i.toNat + U (stF (i.toNat : Int))
    rw [show ((i.toNat : Nat) : Int) = i by omega]
theorem c_leastOrigin {γ : Gh} {K : Sk} {V : Mm} (hL : Lay K) {sa sb : Nat} (hM : MK K sa sb) {U : Int → Int} (hst : ∀ q, 0 ≤ q ∧ q < 455 → V 118 q = stF q) (hU : ∀ j, 0 ≤ j ∧ j < 455 → V sa j = U (stF j)) (hU01 : ∀ t, U t = 0 ∨ U t = 1) : Call γ M_X6_leastOrigin 0 0 0 [vR 101] K V (Rt (some (vI (lD U 455))) K V) := by
  refine call_of (by decide +kernel) (by intro v hv; simp only [List.mem_cons, List.not_mem_nil, or_false] at hv; rcases hv with rfl <;> exact fun q => by cases q) (Nat.le_of_ble_eq_true rfl) ?_
  refine ev_lsE (ls' := [_, _]) rfl ?_
  obtain ⟨z1, z2, z3, z4⟩ := hM.sh hL
  refine ev_iconst (X := M_X6_leastOrigin) (pc := 0) dX6_leastOrigin_0 ?_
  refine ev_istore_nL (X := M_X6_leastOrigin) (pc := 1) (ls' := [_, _]) dX6_leastOrigin_1 (by decide) rfl ?_
  refine ev_weak (ev_countI 455 0 (fun i => lD U 455 = lD U (455 - i).toNat) (fun i => [vR 101, vI i]) (by decide) rfl ?_) ⟨rfl, rfl, trivial⟩
  intro i i0 i1 hI ih
  refine ev_iload_n (X := M_X6_leastOrigin) (pc := 2) dX6_leastOrigin_2 rfl ?_
  refine ev_sipush (X := M_X6_leastOrigin) (pc := 3) dX6_leastOrigin_3 (by decide) ?_
  refine ev_icmp_ge (X := M_X6_leastOrigin) (pc := 6) (tgt := 32) dX6_leastOrigin_6 (by decide) (by omega) (by omega) (fun h6 => ?_) (fun h6 => ?_)
  · refine ev_iconst (X := M_X6_leastOrigin) (pc := 32) dX6_leastOrigin_32 ?_
    refine ev_iret (X := M_X6_leastOrigin) (pc := 33) dX6_leastOrigin_33 rfl ?_
    rw [show (455 - i).toNat = 0 by omega] at hI
    exact ⟨by rw [hI]; rfl, rfl, rfl⟩
  · have hs := lD_s (f := U) (i := i) (by omega)
    have h01 := hU01 (stF i)
    refine ev_aload_n (X := M_X6_leastOrigin) (pc := 9) dX6_leastOrigin_9 rfl ?_
    refine ev_getRe (X := M_X6_leastOrigin) (pc := 10) dX6_leastOrigin_10 fl_X6_34_6 (lO_101 hL) rfl hM.1 ?_
    refine ev_iload_n (X := M_X6_leastOrigin) (pc := 13) dX6_leastOrigin_13 rfl ?_
    refine ev_ialoadE (X := M_X6_leastOrigin) (pc := 14) dX6_leastOrigin_14 z1 (by omega) (hU i (by omega)) ?_
    refine ev_iconst (X := M_X6_leastOrigin) (pc := 15) dX6_leastOrigin_15 ?_
    refine ev_icmp_ne (X := M_X6_leastOrigin) (pc := 16) (tgt := 26) dX6_leastOrigin_16 (by decide) (by omega) (by decide) (fun h16 => ?_) (fun h16 => ?_)
    · rw [if_neg h16] at hs
      refine ev_iincL (X := M_X6_leastOrigin) (pc := 26) (ls' := [_, _]) dX6_leastOrigin_26 rfl (by decide) rfl ?_
      refine ev_goto (X := M_X6_leastOrigin) (pc := 29) (tgt := 2) dX6_leastOrigin_29 (by decide) ?_
      exact ev_weak (ih (by omega) (by rw [hI, hs])) ⟨rfl, rfl, trivial⟩
    · rw [if_pos h16] at hs
      refine ev_aload_n (X := M_X6_leastOrigin) (pc := 19) dX6_leastOrigin_19 rfl ?_
      refine ev_getRe (X := M_X6_leastOrigin) (pc := 20) dX6_leastOrigin_20 fl_X6_18_6 (lO_101 hL) rfl (lR_101_1 hL) ?_
      refine ev_iload_n (X := M_X6_leastOrigin) (pc := 23) dX6_leastOrigin_23 rfl ?_
      refine ev_ialoadE (X := M_X6_leastOrigin) (pc := 24) dX6_leastOrigin_24 (lS_118 hL) (by omega) (hst i (by omega)) ?_
      refine ev_iret (X := M_X6_leastOrigin) (pc := 25) dX6_leastOrigin_25 rfl ?_
      exact ⟨by rw [hI, hs], rfl, rfl⟩
def waR (C : Int → Int) (F s0 n w : Int) : Int := if (0 ≤ n ∧ n ≤ 6) ∧ 0 ≤ w ∧ w ≤ 1 then (if w = 0 then Sm (wbK C F s0 n.toNat) 455 else oNr (lD (wbK C F s0 n.toNat) 455)) else -1000000001
def waE (C : Int → Int) (F s0 n w : Int) (er : Int → Int) : Int → Int := if (0 ≤ n ∧ n ≤ 6) ∧ 0 ≤ w ∧ w ≤ 1 then (if w = 0 then er else if lD (wbK C F s0 n.toNat) 455 = -1 then up er 2 (er 2 + 1) else er) else up er 1 (er 1 + 1)
theorem c_was {γ : Gh} {K : Sk} {V : Mm} {C : Int → Int} {F s0 n w : Int} (h : SrP K V C F) (hs : isSt s0) (hn : V 102 4 = s0) (hnr : R32 n) (hwr : R32 w) : Call γ M_X11_was 6 0 0 [vR 100, vI n, vI w] K V (Qg (some (vI (waR C F s0 n w))) (fun K' W => KS K K' ∧ CS C F V (waE C F s0 n w (V 155)) W)) := by
  refine call_of (by decide +kernel) (by intro v hv; simp only [List.mem_cons, List.not_mem_nil, or_false] at hv; rcases hv with rfl | rfl | rfl <;> exact fun q => by cases q) (Nat.le_of_ble_eq_true rfl) ?_
  refine ev_lsE (ls' := [_, _, _]) rfl ?_
  have hL := h.1
  refine ev_iload_n (X := M_X11_was) (pc := 0) dX11_was_0 rfl ?_
  refine ev_if_lt (X := M_X11_was) (pc := 1) (tgt := 19) dX11_was_1 (by decide) (by omega) (fun h1 => ?_) (fun h1 => ?_)
  · have hno : ¬ ((0 ≤ n ∧ n ≤ 6) ∧ 0 ≤ w ∧ w ≤ 1) := fun z => by omega
    refine ev_aload_n (X := M_X11_was) (pc := 19) dX11_was_19 rfl ?_
    refine ev_ldc (X := M_X11_was) (pc := 20) (v := -1000000001) dX11_was_20 kw_318 (by decide) ?_
    refine ev_virtR (X := M_X11_was) (Y := M_X11_error) (pc := 22) (ci := 11) dX11_was_22 mk_X11_error rfl kw_319 kw_321 kp_0 (lO_100 hL) (c_error hL (k := 1) (by decide) rfl) rfl (by decide) rfl (Nat.le_of_ble_eq_true rfl) (Nat.zero_add _) (Nat.zero_add _) ?_
    refine ev_iret (X := M_X11_was) (pc := 25) dX11_was_25 rfl ?_
    unfold waR waE
    rw [if_neg hno, if_neg hno]
    exact ⟨rfl, KS.rf hL, by rw [err_119]; exact h.2.2.2.2.2.2.2, err_155, frS.rf.er 1⟩
  · refine ev_iload_n (X := M_X11_was) (pc := 4) dX11_was_4 rfl ?_
    refine ev_bipush (X := M_X11_was) (pc := 5) dX11_was_5 (by decide) ?_
    refine ev_icmp_gt (X := M_X11_was) (pc := 7) (tgt := 19) dX11_was_7 (by decide) (by omega) (by omega) (fun h7 => ?_) (fun h7 => ?_)
    · have hno : ¬ ((0 ≤ n ∧ n ≤ 6) ∧ 0 ≤ w ∧ w ≤ 1) := fun z => by omega
      refine ev_aload_n (X := M_X11_was) (pc := 19) dX11_was_19 rfl ?_
      refine ev_ldc (X := M_X11_was) (pc := 20) (v := -1000000001) dX11_was_20 kw_318 (by decide) ?_
      refine ev_virtR (X := M_X11_was) (Y := M_X11_error) (pc := 22) (ci := 11) dX11_was_22 mk_X11_error rfl kw_319 kw_321 kp_0 (lO_100 hL) (c_error hL (k := 1) (by decide) rfl) rfl (by decide) rfl (Nat.le_of_ble_eq_true rfl) (Nat.zero_add _) (Nat.zero_add _) ?_
      refine ev_iret (X := M_X11_was) (pc := 25) dX11_was_25 rfl ?_
      unfold waR waE
      rw [if_neg hno, if_neg hno]
      exact ⟨rfl, KS.rf hL, by rw [err_119]; exact h.2.2.2.2.2.2.2, err_155, frS.rf.er 1⟩
    · refine ev_iload_n (X := M_X11_was) (pc := 10) dX11_was_10 rfl ?_
      refine ev_if_lt (X := M_X11_was) (pc := 11) (tgt := 19) dX11_was_11 (by decide) (by omega) (fun h11 => ?_) (fun h11 => ?_)
      · have hno : ¬ ((0 ≤ n ∧ n ≤ 6) ∧ 0 ≤ w ∧ w ≤ 1) := fun z => by omega
        refine ev_aload_n (X := M_X11_was) (pc := 19) dX11_was_19 rfl ?_
        refine ev_ldc (X := M_X11_was) (pc := 20) (v := -1000000001) dX11_was_20 kw_318 (by decide) ?_
        refine ev_virtR (X := M_X11_was) (Y := M_X11_error) (pc := 22) (ci := 11) dX11_was_22 mk_X11_error rfl kw_319 kw_321 kp_0 (lO_100 hL) (c_error hL (k := 1) (by decide) rfl) rfl (by decide) rfl (Nat.le_of_ble_eq_true rfl) (Nat.zero_add _) (Nat.zero_add _) ?_
        refine ev_iret (X := M_X11_was) (pc := 25) dX11_was_25 rfl ?_
        unfold waR waE
        rw [if_neg hno, if_neg hno]
        exact ⟨rfl, KS.rf hL, by rw [err_119]; exact h.2.2.2.2.2.2.2, err_155, frS.rf.er 1⟩
      · refine ev_iload_n (X := M_X11_was) (pc := 14) dX11_was_14 rfl ?_
        refine ev_iconst (X := M_X11_was) (pc := 15) dX11_was_15 ?_
        refine ev_icmp_le (X := M_X11_was) (pc := 16) (tgt := 26) dX11_was_16 (by decide) (by omega) (by omega) (fun h16 => ?_) (fun h16 => ?_)
        · have hye : (0 ≤ n ∧ n ≤ 6) ∧ 0 ≤ w ∧ w ≤ 1 := by omega
          refine ev_aload_n (X := M_X11_was) (pc := 26) dX11_was_26 rfl ?_
          refine ev_getRe (X := M_X11_was) (pc := 27) dX11_was_27 fl_X11_12_11 (lO_100 hL) rfl (lR_100_2 hL) ?_
          refine ev_iload_n (X := M_X11_was) (pc := 30) dX11_was_30 rfl ?_
          refine ev_virtH (X := M_X11_was) (Y := M_X6_goBack) (pc := 31) (ci := 6) dX11_was_31 mk_X6_goBack rfl kw_789 kw_790 kw_791 (lO_101 hL) ((by have := c_goBack (γ := γ) h hs hn (n := n.toNat) (by omega); rw [show ((n.toNat : Nat) : Int) = n by omega] at this; exact this)) rfl (by decide) rfl (Nat.le_of_ble_eq_true rfl) (Nat.zero_add _) (Nat.zero_add _) (fun K2 W hW => ?_)
          obtain ⟨kS, wf, w155, wO, sa, sb, hM, hU⟩ := hW
          have hL2 := kS.2.2.2
          have hS2 := h.frS hL2 wf wO
          have h01 := wbK_01 (C := C) (F := F) (s0 := s0) n.toNat
          unfold waR waE
          rw [if_pos hye, if_pos hye]
          generalize wbK C F s0 n.toNat = U at *
          have hlr := lD_r (f := U) 455 (Nat.le_refl _)
          have hlr2 : R32 (lD U 455) := by
            rcases hlr with z | z
            · rw [z]; decide
            · have := isSt_lt z; show -2147483648 ≤ _ ∧ _ < 2147483648; omega
          have hlst : 0 ≤ lD U 455 ∨ lD U 455 = -1 := by
            rcases hlr with z | z
            · exact Or.inr z
            · exact Or.inl z.1
          refine ev_iload_n (X := M_X11_was) (pc := 34) dX11_was_34 rfl ?_
          refine ev_if_ne (X := M_X11_was) (pc := 35) (tgt := 48) dX11_was_35 (by decide) (by omega) (fun h35 => ?_) (fun h35 => ?_)
          · rw [if_neg h35, if_neg h35]
            refine ev_aload_n (X := M_X11_was) (pc := 48) dX11_was_48 rfl ?_
            refine ev_aload_n (X := M_X11_was) (pc := 49) dX11_was_49 rfl ?_
            refine ev_getRe (X := M_X11_was) (pc := 50) dX11_was_50 fl_X11_12_11 (lO_100 hL2) rfl (lR_100_2 hL2) ?_
            refine ev_virtR (X := M_X11_was) (Y := M_X6_leastOrigin) (pc := 53) (ci := 6) dX11_was_53 mk_X6_leastOrigin rfl kw_801 kw_802 kw_803 (lO_101 hL2) (c_leastOrigin hL2 hM hS2.2.2.2.2.2.2.1 hU h01) rfl (by decide) rfl (Nat.le_of_ble_eq_true rfl) (Nat.zero_add _) (Nat.zero_add _) ?_
            refine ev_virtR (X := M_X11_was) (Y := M_X11_orNone) (pc := 56) (ci := 11) dX11_was_56 mk_X11_orNone rfl kw_678 kw_680 kp_4 (lO_100 hL2) (c_orNone hL2 hlr2) rfl (by decide) rfl (Nat.le_of_ble_eq_true rfl) (Nat.zero_add _) (Nat.zero_add _) ?_
            refine ev_iret (X := M_X11_was) (pc := 59) dX11_was_59 rfl ?_
            first
              | exact ⟨rfl, kS, wO, w155, wf⟩
              | (refine ⟨rfl, kS, ?_⟩
                 unfold oNV
                 by_cases z : lD U 455 = -1
                 · rw [if_pos z, if_pos z]
                   exact ⟨by rw [err_119]; exact wO, by rw [err_155, w155], wf.er 2⟩
                 · rw [if_neg z, if_neg z]
                   exact ⟨wO, w155, wf⟩)
          · rw [if_pos h35, if_pos h35]
            refine ev_aload_n (X := M_X11_was) (pc := 38) dX11_was_38 rfl ?_
            refine ev_getRe (X := M_X11_was) (pc := 39) dX11_was_39 fl_X11_12_11 (lO_100 hL2) rfl (lR_100_2 hL2) ?_
            refine ev_virtR (X := M_X11_was) (Y := M_X6_originsInAll) (pc := 42) (ci := 6) dX11_was_42 mk_X6_originsInAll rfl kw_797 kw_798 kw_799 (lO_101 hL2) (c_originsInAll hL2 hM hU) rfl (by decide) rfl (Nat.le_of_ble_eq_true rfl) (Nat.zero_add _) (Nat.zero_add _) ?_
            refine ev_goto (X := M_X11_was) (pc := 45) (tgt := 59) dX11_was_45 (by decide) ?_
            refine ev_iret (X := M_X11_was) (pc := 59) dX11_was_59 rfl ?_
            first
              | exact ⟨rfl, kS, wO, w155, wf⟩
              | (refine ⟨rfl, kS, ?_⟩
                 unfold oNV
                 by_cases z : lD U 455 = -1
                 · rw [if_pos z, if_pos z]
                   exact ⟨by rw [err_119]; exact wO, by rw [err_155, w155], wf.er 2⟩
                 · rw [if_neg z, if_neg z]
                   exact ⟨wO, w155, wf⟩)
        · have hno : ¬ ((0 ≤ n ∧ n ≤ 6) ∧ 0 ≤ w ∧ w ≤ 1) := fun z => by omega
          refine ev_aload_n (X := M_X11_was) (pc := 19) dX11_was_19 rfl ?_
          refine ev_ldc (X := M_X11_was) (pc := 20) (v := -1000000001) dX11_was_20 kw_318 (by decide) ?_
          refine ev_virtR (X := M_X11_was) (Y := M_X11_error) (pc := 22) (ci := 11) dX11_was_22 mk_X11_error rfl kw_319 kw_321 kp_0 (lO_100 hL) (c_error hL (k := 1) (by decide) rfl) rfl (by decide) rfl (Nat.le_of_ble_eq_true rfl) (Nat.zero_add _) (Nat.zero_add _) ?_
          refine ev_iret (X := M_X11_was) (pc := 25) dX11_was_25 rfl ?_
          unfold waR waE
          rw [if_neg hno, if_neg hno]
          exact ⟨rfl, KS.rf hL, by rw [err_119]; exact h.2.2.2.2.2.2.2, err_155, frS.rf.er 1⟩
