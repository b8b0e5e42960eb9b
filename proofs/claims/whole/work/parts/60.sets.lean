/-! ===== sets of fences as bits ===== -/
def bt (x : Int) (b : Nat) : Bool := (Int64.ofInt x).toBitVec.getLsbD b
theorem bt_and {x y : Int} {b : Nat} : bt (op_land x y) b = (bt x b && bt y b) := by
  unfold bt op_land
  rw [Int64.ofInt_toInt, Int64.toBitVec_and, BitVec.getLsbD_and]
theorem bt_or {x y : Int} {b : Nat} : bt (op_lor x y) b = (bt x b || bt y b) := by
  unfold bt op_lor
  rw [Int64.ofInt_toInt, Int64.toBitVec_or, BitVec.getLsbD_or]
theorem bt_m1 : ∀ b, b < 64 → bt (-1) b = true := by decide +kernel
theorem bt_0 : ∀ b, b < 64 → bt 0 b = false := by decide +kernel
theorem bt_1 : ∀ b, b < 64 → bt 1 b = (b == 0) := by decide +kernel
theorem bt_not {x : Int} {b : Nat} (hb : b < 64) : bt (op_lxor x (-1)) b = !bt x b := by
  have h := bt_m1 b hb
  unfold bt at h ⊢
  unfold op_lxor
  rw [Int64.ofInt_toInt, Int64.toBitVec_xor, BitVec.getLsbD_xor, h]
  cases (Int64.ofInt x).toBitVec.getLsbD b <;> rfl
theorem op_l (x : Int64) : -9223372036854775808 ≤ x.toInt ∧ x.toInt < 9223372036854775808 := ⟨Int64.le_toInt x, Int64.toInt_lt x⟩
theorem bt_z {x : Int64} (h : ∀ b, b < 64 → bt x.toInt b = false) : x.toInt = 0 := by
  have e : x.toBitVec = 0#64 := by
    apply BitVec.eq_of_getLsbD_eq
    intro i hi
    have := h i hi
    unfold bt at this
    rw [Int64.ofInt_toInt] at this
    rw [this]
    simp
  have e2 : x = 0 := Int64.toBitVec_inj.mp e
  rw [e2]
  rfl
theorem land_z {x y : Int} : op_land x y = 0 ↔ ∀ b, b < 64 → bt x b = true → bt y b = true → False := by
  constructor
  · intro h b hb h1 h2
    have := bt_and (x := x) (y := y) (b := b)
    rw [h, bt_0 b hb, h1, h2] at this
    cases this
  · intro h
    refine bt_z (fun b hb => ?_)
    have e : bt (op_land x y) b = (bt x b && bt y b) := bt_and
    unfold op_land at e
    rw [e]
    cases h1 : bt x b with
    | false => rfl
    | true =>
      cases h2 : bt y b with
      | false => rfl
      | true => exact (h b hb h1 h2).elim
theorem wit_tab : ∀ p, p < 6 → ∀ b, b < 64 → bt (witF ((p : Nat) : Int)) b = !(Nat.testBit b p) := by decide +kernel
theorem shr_sh : ∀ s, s < 64 → ((Int32.ofInt ((s : Nat) : Int)).toInt64.toUInt64 &&& Int64.toUInt64 63).toBitVec.toNat = s := by decide +kernel
theorem lushr_1 {x : Int} {s : Nat} (hs : s < 64) : op_land (op_lushr x s) 1 = if bt x s then 1 else 0 := by
  have hb : ∀ b, b < 64 → bt (op_land (op_lushr x s) 1) b = (bt x s && b == 0) := fun b hb => by
    rw [bt_and, bt_1 b hb]
    by_cases z : b = 0
    · subst z
      have e : bt (op_lushr x s) 0 = bt x s := by
        unfold bt op_lushr
        rw [Int64.ofInt_toInt]
        have h1 : (((Int64.ofInt x).toUInt64 >>> ((Int32.ofInt (s : Int)).toInt64.toUInt64 &&& Int64.toUInt64 63)).toInt64).toBitVec = (Int64.ofInt x).toBitVec >>> (((Int32.ofInt (s : Int)).toInt64.toUInt64 &&& Int64.toUInt64 63).toBitVec.toNat % 64) := by
          show ((Int64.ofInt x).toUInt64 >>> ((Int32.ofInt (s : Int)).toInt64.toUInt64 &&& Int64.toUInt64 63)).toBitVec = _
          rw [UInt64.toBitVec_shiftRight]
          rfl
        rw [h1, shr_sh s hs, Nat.mod_eq_of_lt hs, BitVec.getLsbD_ushiftRight, Nat.add_zero]
      rw [e]
    · have : (b == 0) = false := by simpa using z
      rw [this]
      cases bt (op_lushr x s) b <;> cases bt x s <;> rfl
  cases hx : bt x s with
  | false =>
    rw [if_neg (by decide)]
    refine bt_z (x := Int64.ofInt (op_lushr x s) &&& Int64.ofInt 1) (fun b h => ?_)
    have := hb b h
    rw [hx] at this
    exact this
  | true =>
    rw [if_pos rfl]
    have e : (Int64.ofInt (op_lushr x s) &&& Int64.ofInt 1).toBitVec = (Int64.ofInt 1).toBitVec := by
      apply BitVec.eq_of_getLsbD_eq
      intro i hi
      have h1 := hb i hi
      rw [hx, Bool.true_and] at h1
      have h2 := bt_1 i hi
      unfold bt op_land at h1
      unfold bt at h2
      rw [Int64.ofInt_toInt] at h1
      rw [h1, h2]
    have e2 : Int64.ofInt (op_lushr x s) &&& Int64.ofInt 1 = Int64.ofInt 1 := Int64.toBitVec_inj.mp e
    unfold op_land
    rw [e2]
    rfl
theorem ior_tab : ∀ f, f < 64 → ∀ b, b < 64 → op_ior ((f : Nat) : Int) ((b : Nat) : Int) = ((f ||| b : Nat) : Int) := by decide +kernel
theorem bit_tb : ∀ n, n < 64 → ∀ p, p < 6 → bit ((n : Nat) : Int) ((p : Nat) : Int) = if n.testBit p then 1 else 0 := by decide +kernel
theorem ior_r {F b : Int} (hF : 0 ≤ F ∧ F < 64) (hb : 0 ≤ b ∧ b < 64) : 0 ≤ op_ior F b ∧ op_ior F b < 64 := by
  have := ior_tab F.toNat (by omega) b.toNat (by omega)
  rw [show ((F.toNat : Nat) : Int) = F by omega, show ((b.toNat : Nat) : Int) = b by omega] at this
  rw [this]
  have h := Nat.or_lt_two_pow (x := F.toNat) (y := b.toNat) (n := 6) (by omega) (by omega)
  omega
theorem ior_bit {F b p : Int} (hF : 0 ≤ F ∧ F < 64) (hb : 0 ≤ b ∧ b < 64) (hp : 0 ≤ p ∧ p < 6) : bit (op_ior F b) p = 0 ↔ (bit F p = 0 ∧ b.toNat.testBit p.toNat = false) := by
  have h1 := ior_tab F.toNat (by omega) b.toNat (by omega)
  have h0 := bit_tb F.toNat (by omega) p.toNat (by omega)
  have h := Nat.or_lt_two_pow (x := F.toNat) (y := b.toNat) (n := 6) (by omega) (by omega)
  have h2 := bit_tb (F.toNat ||| b.toNat) h p.toNat (by omega)
  rw [show ((F.toNat : Nat) : Int) = F by omega, show ((b.toNat : Nat) : Int) = b by omega] at h1
  rw [show ((F.toNat : Nat) : Int) = F by omega, show ((p.toNat : Nat) : Int) = p by omega] at h0
  rw [show ((p.toNat : Nat) : Int) = p by omega] at h2
  rw [h1, h2, h0, Nat.testBit_or]
  cases F.toNat.testBit p.toNat <;> cases b.toNat.testBit p.toNat <;> decide
section ST
variable {C : Int → Int} {F s p b : Int}
theorem nx_or1 (hC : wfC C) (hF : 0 ≤ F ∧ F < 64) (hb : 0 ≤ b ∧ b < 64) (hp : 0 ≤ p ∧ p < 6) (hs : isSt s) (h : nx C (op_ior F b) s p ≠ -1) : b.toNat.testBit p.toNat = false ∧ nx C F s p = nx C (op_ior F b) s p := by
  have hm := (nx_ne (F := op_ior F b) hC hp hs).mp h
  obtain ⟨m1, m2, m3⟩ := hm
  obtain ⟨i1, i2⟩ := (ior_bit hF hb hp).mp m2
  refine ⟨i2, ?_⟩
  unfold nx
  rw [if_pos ⟨m1, i1, m3⟩, if_pos ⟨m1, m2, m3⟩]
theorem nx_or2 (hC : wfC C) (hF : 0 ≤ F ∧ F < 64) (hb : 0 ≤ b ∧ b < 64) (hp : 0 ≤ p ∧ p < 6) (hs : isSt s) (ht : b.toNat.testBit p.toNat = false) (h : nx C F s p ≠ -1) : nx C (op_ior F b) s p = nx C F s p := by
  obtain ⟨m1, m2, m3⟩ := (nx_ne (F := F) hC hp hs).mp h
  have i := (ior_bit hF hb hp).mpr ⟨m2, ht⟩
  unfold nx
  rw [if_pos ⟨m1, i, m3⟩, if_pos ⟨m1, m2, m3⟩]
end ST
/-- found from s0, pairs G being fenced -/
def Rch (C : Int → Int) (s0 G t : Int) : Prop := (bF C G s0).1 t ≠ -1
theorem Rch_0 {C : Int → Int} {s0 G : Int} (hC : wfC C) (hs : isSt s0) : Rch C s0 G s0 := by
  unfold Rch
  rw [far_0 (bF_I (F := G) hC hs)]
  decide
theorem Rch_st {C : Int → Int} {s0 G t : Int} (hC : wfC C) (hs : isSt s0) (h : Rch C s0 G t) : isSt t := far_isSt (bF_I (F := G) hC hs) h
theorem Rch_s {C : Int → Int} {s0 G t p : Int} (hC : wfC C) (hs : isSt s0) (h : Rch C s0 G t) (hp : 0 ≤ p ∧ p < 6) (hx : nx C G t p ≠ -1) : Rch C s0 G (nx C G t p) := by
  have hI := bF_I (F := G) hC hs
  have hO := bF_O (F := G) hC hs
  unfold Rch at h ⊢
  generalize bF C G s0 = B at *
  have hn := hI.n_le
  obtain ⟨j, hj, hjw⟩ := hI.2.2.2.1 t h
  have := edge_by hI hO (by omega) hj hp (by rw [hjw]; exact hx)
  rw [hjw] at this
  exact this.1
theorem Rch_par {C : Int → Int} {s0 G t : Int} (hC : wfC C) (hs : isSt s0) (h : Rch C s0 G t) : t = s0 ∨ ∃ s p, Rch C s0 G s ∧ (0 ≤ p ∧ p < 6) ∧ nx C G s p = t ∧ (bF C G s0).1 s = (bF C G s0).1 t - 1 := by
  have hI := bF_I (F := G) hC hs
  have hO := bF_O (F := G) hC hs
  have hfr := hI.far_r t
  unfold Rch at h ⊢
  generalize bF C G s0 = B at *
  by_cases z : 1 ≤ B.1 t
  · obtain ⟨q1, q2, q3, -⟩ := par_ok hI hO z
    exact Or.inr ⟨par B t, B.2.2.2 t % 6, by omega, by omega, q2, q1⟩
  · obtain ⟨i, hi, hit⟩ := hI.2.2.2.1 t h
    rcases (show i = 0 ∨ 1 ≤ i by omega) with q | q
    · left
      rw [← hit, q]
      exact hI.2.2.2.2.2.1
    · exfalso
      have h5 := (hO.1 i ⟨q, hi.2⟩).2.2.2.2
      have h2 := (hO.1 i ⟨q, hi.2⟩).2.2.1
      have h3 := (hO.1 i ⟨q, hi.2⟩).1
      have h4 := (hI.2.2.1 (B.2.2.2 (B.2.1 i) / 6) ⟨by omega, by omega⟩).1
      rw [hit] at h5
      rw [hit] at h4
      omega
theorem Rch_ind {C : Int → Int} {s0 G : Int} (hC : wfC C) (hs : isSt s0) (P : Int → Prop) (h0 : P s0) (hP : ∀ s p, Rch C s0 G s → P s → (0 ≤ p ∧ p < 6) → nx C G s p ≠ -1 → P (nx C G s p)) (t : Int) (h : Rch C s0 G t) : P t := by
  have main : ∀ (n : Nat) (t : Int), (bF C G s0).1 t ≤ (n : Int) → Rch C s0 G t → P t := by
    intro n
    induction n with
    | zero =>
      intro t hn h
      rcases Rch_par hC hs h with z | ⟨s, p, h1, h2, h3, h4⟩
      · rw [z]; exact h0
      · have hI := (bF_I (F := G) hC hs).far_r s
        unfold Rch at h1
        omega
    | succ n ih =>
      intro t hn h
      rcases Rch_par hC hs h with z | ⟨s, p, h1, h2, h3, h4⟩
      · rw [z]; exact h0
      · have hst := Rch_st hC hs h
        rw [← h3]
        refine hP s p h1 (ih s (by omega) h1) h2 ?_
        rw [h3]
        have := hst.1
        omega
  have hr := (bF_I (F := G) hC hs).far_r t
  exact main ((bF C G s0).1 t).toNat t (by omega) h
theorem Rch_sub {C : Int → Int} {s0 F b t : Int} (hC : wfC C) (hs : isSt s0) (hF : 0 ≤ F ∧ F < 64) (hb : 0 ≤ b ∧ b < 64) (h : Rch C s0 (op_ior F b) t) : Rch C s0 F t := by
  refine Rch_ind hC hs (fun t => Rch C s0 F t) (Rch_0 hC hs) (fun s p h1 h2 h3 h4 => ?_) t h
  obtain ⟨_, e⟩ := nx_or1 hC hF hb h3 (Rch_st hC hs h1) h4
  rw [← e]
  exact Rch_s hC hs h2 h3 (by rw [e]; exact h4)
theorem nE_none {far : Int → Int} {w : Int} (hw : 0 < w) : ∀ v : Nat, nEn far w v = -1 → ∀ j : Nat, 1 ≤ j → j ≤ v → far (j * w) = -1
  | 0, _, j, h1, h2 => by omega
  | v + 1, h, j, h1, h2 => by
    have hs := nE_s (far := far) (w := w) (v := (v : Int)) (by omega)
    unfold nE at hs
    rw [show ((v : Int) + 1).toNat = v + 1 by omega, show ((v : Nat) : Int).toNat = v by omega] at hs
    rw [hs] at h
    have hpos : 0 < ((v : Int) + 1) * w := Int.mul_pos (by omega) hw
    by_cases z : far (((v : Int) + 1) * w) ≠ -1 ∧ (nEn far w v = -1 ∨ far (((v : Int) + 1) * w) < far (nEn far w v))
    · rw [if_pos z] at h
      omega
    · rw [if_neg z] at h
      by_cases y : j = v + 1
      · subst y
        rw [show (((v + 1 : Nat) : Int)) = (v : Int) + 1 by omega]
        exact Decidable.byContradiction fun q => z ⟨q, Or.inl h⟩
      · exact nE_none hw v h j h1 (by omega)
theorem nE_12 {far : Int → Int} {w : Int} (hw : 0 < w) : nE far w 12 = -1 ↔ ∀ j : Nat, 1 ≤ j → j ≤ 12 → far (j * w) = -1 := by
  constructor
  · intro h
    exact nE_none hw 12 h
  · intro h
    rcases nE_in (far := far) (w := w) 12 with z | ⟨j, hj, h1, h2⟩
    · exact z
    · exfalso
      have := h j.toNat (by omega) (by omega)
      rw [show ((j.toNat : Nat) : Int) = j by omega] at this
      exact h2 this
/-- the fewest fences: the class's way and the reference's -/
def onF (n : Int) : Int := bit n 0 + bit n 1 + bit n 2 + bit n 3 + bit n 4 + bit n 5
def ke (C : Int → Int) (F s0 k i : Int) : Prop := nE (bF C (op_ior F i) s0).1 (wgtF k) 12 = -1
def keI (C : Int → Int) (F s0 k i : Int) : Int := nE (bF C (op_ior F i) s0).1 (wgtF k) 12
def cB (C : Int → Int) (F s0 k : Int) : Nat → Int
  | 0 => 63 - F
  | i + 1 => if op_iand i F = 0 ∧ keI C F s0 k i = -1 ∧ onF i < onF (cB C F s0 k i) then (i : Int) else cB C F s0 k i
def mB (C : Int → Int) (F s0 k : Int) : Nat → Int
  | 0 => -1
  | i + 1 => if op_iand i F = 0 ∧ (mB C F s0 k i < 0 ∨ onF i < onF (mB C F s0 k i)) ∧ keI C F s0 k i = -1 then (i : Int) else mB C F s0 k i
theorem on_tab : ∀ f, f < 64 → ∀ i, i < 64 → op_iand ((i : Nat) : Int) ((f : Nat) : Int) = 0 → (i ≠ 63 - f → onF ((i : Nat) : Int) < onF (63 - ((f : Nat) : Int))) := by decide +kernel
theorem and_tab : ∀ f, f < 64 → op_iand (63 - ((f : Nat) : Int)) ((f : Nat) : Int) = 0 ∧ op_iand 63 (op_ixor ((f : Nat) : Int) (-1)) = 63 - ((f : Nat) : Int) ∧ op_ior ((f : Nat) : Int) (63 - ((f : Nat) : Int)) = 63 := by decide +kernel
theorem full_tab : ∀ p, p < 6 → bit 63 ((p : Nat) : Int) = 1 := by decide
theorem on_r : ∀ n, n < 64 → 0 ≤ onF ((n : Nat) : Int) ∧ onF ((n : Nat) : Int) ≤ 6 := by decide +kernel
theorem keeps_full {C : Int → Int} {F s0 k : Int} (hC : wfC C) (hs : isSt s0) (hF : 0 ≤ F ∧ F < 64) (hk : 0 ≤ k ∧ k < 3) (he : ¬ enD s0 k) : keI C F s0 k (63 - F) = -1 := by
  have h63 := (and_tab F.toNat (by omega)).2.2
  rw [show ((F.toNat : Nat) : Int) = F by omega] at h63
  unfold keI
  rw [h63]
  have hw := (wgt_pos k).1
  rw [nE_12 hw]
  intro j h1 h2
  refine Decidable.byContradiction fun q => ?_
  have hfd : Rch C s0 63 (j * wgtF k) := q
  have hall := Rch_ind (G := 63) hC hs (fun t => t = s0) rfl (fun s p h1 h2 h3 h4 => by
    exfalso
    have hm := (nx_ne (F := 63) hC h3 (Rch_st hC hs h1)).mp h4
    have := full_tab p.toNat (by omega)
    rw [show ((p.toNat : Nat) : Int) = p by omega] at this
    have h0 := hm.2.1
    omega) (j * wgtF k) hfd
  apply he
  rw [← hall]
  have hst := end_st (j := (j : Int)) (k := k) (by omega) hk
  rw [← enD_iff (isSt_lt hst) hk]
  have hm := st_mk (a := if k = 0 then (j : Int) else 0) (b := if k = 1 then (j : Int) else 0) (c := if k = 2 then (j : Int) else 0) (by split <;> omega) (by split <;> omega) (by split <;> omega) (by rcases (show k = 0 ∨ k = 1 ∨ k = 2 by omega) with z | z | z <;> subst z <;> simp <;> omega)
  have w0 : wgtF 0 = 169 := rfl
  have w1 : wgtF 1 = 13 := rfl
  have w2 : wgtF 2 = 1 := rfl
  rcases (show k = 0 ∨ k = 1 ∨ k = 2 by omega) with z | z | z <;> subst z <;> simp at hm
  · rw [w0, Int.mul_comm (j : Int) 169]
    rw [hm.2.1]
    omega
  · rw [w1, Int.mul_comm (j : Int) 13]
    rw [hm.2.2.1]
    omega
  · rw [w2, Int.mul_one]
    rw [hm.2.2.2.1]
    omega
theorem cB_r {C : Int → Int} {F s0 k : Int} (hF : 0 ≤ F ∧ F < 64) : ∀ i : Nat, i ≤ 64 → 0 ≤ cB C F s0 k i ∧ cB C F s0 k i < 64
  | 0, _ => by show 0 ≤ 63 - F ∧ 63 - F < 64; omega
  | i + 1, hi => by
    have ih := cB_r (C := C) (s0 := s0) (k := k) hF i (by omega)
    show 0 ≤ (if op_iand i F = 0 ∧ keI C F s0 k i = -1 ∧ onF i < onF (cB C F s0 k i) then (i : Int) else cB C F s0 k i) ∧ (if op_iand i F = 0 ∧ keI C F s0 k i = -1 ∧ onF i < onF (cB C F s0 k i) then (i : Int) else cB C F s0 k i) < 64
    split <;> omega
theorem mB_r {C : Int → Int} {F s0 k : Int} : ∀ i : Nat, i ≤ 64 → -1 ≤ mB C F s0 k i ∧ mB C F s0 k i < 64
  | 0, _ => by show (-1 : Int) ≤ -1 ∧ (-1 : Int) < 64; decide
  | i + 1, hi => by
    have ih := mB_r (C := C) (F := F) (s0 := s0) (k := k) i (by omega)
    show -1 ≤ (if op_iand i F = 0 ∧ (mB C F s0 k i < 0 ∨ onF i < onF (mB C F s0 k i)) ∧ keI C F s0 k i = -1 then (i : Int) else mB C F s0 k i) ∧ (if op_iand i F = 0 ∧ (mB C F s0 k i < 0 ∨ onF i < onF (mB C F s0 k i)) ∧ keI C F s0 k i = -1 then (i : Int) else mB C F s0 k i) < 64
    split <;> omega
theorem cB_mB {C : Int → Int} {F s0 k : Int} (hC : wfC C) (hs : isSt s0) (hF : 0 ≤ F ∧ F < 64) (hk : 0 ≤ k ∧ k < 3) (he : ¬ enD s0 k) : ∀ i : Nat, i ≤ 64 → (mB C F s0 k i = -1 ∧ cB C F s0 k i = 63 - F ∧ (i : Int) ≤ 63 - F) ∨ (0 ≤ mB C F s0 k i ∧ cB C F s0 k i = mB C F s0 k i)
  | 0, _ => Or.inl ⟨rfl, rfl, by omega⟩
  | i + 1, hi => by
    have ih := cB_mB (k := k) hC hs hF hk he i (by omega)
    have hfull := keeps_full hC hs hF hk he
    have hand := (and_tab F.toNat (by omega)).1
    have htab := on_tab F.toNat (by omega) i (by omega)
    rw [show ((F.toNat : Nat) : Int) = F by omega] at hand htab
    show (_ ∧ (if op_iand i F = 0 ∧ keI C F s0 k i = -1 ∧ onF i < onF (cB C F s0 k i) then (i : Int) else cB C F s0 k i) = 63 - F ∧ _) ∨ (0 ≤ (if op_iand i F = 0 ∧ (mB C F s0 k i < 0 ∨ onF i < onF (mB C F s0 k i)) ∧ keI C F s0 k i = -1 then (i : Int) else mB C F s0 k i) ∧ (if op_iand i F = 0 ∧ keI C F s0 k i = -1 ∧ onF i < onF (cB C F s0 k i) then (i : Int) else cB C F s0 k i) = (if op_iand i F = 0 ∧ (mB C F s0 k i < 0 ∨ onF i < onF (mB C F s0 k i)) ∧ keI C F s0 k i = -1 then (i : Int) else mB C F s0 k i))
    rcases ih with ⟨a, b, c⟩ | ⟨a, b⟩
    · by_cases z : (i : Int) = 63 - F
      · right
        rw [a, b, z, if_pos ⟨hand, Or.inl (by decide), hfull⟩, if_neg (fun q => by have := q.2.2; omega)]
        exact ⟨by omega, rfl⟩
      · by_cases y : op_iand i F = 0 ∧ keI C F s0 k i = -1
        · right
          rw [a, b, if_pos ⟨y.1, Or.inl (by decide), y.2⟩, if_pos ⟨y.1, y.2, htab y.1 (by omega)⟩]
          exact ⟨by omega, rfl⟩
        · left
          refine ⟨?_, ?_, by omega⟩
          · show (if op_iand i F = 0 ∧ (mB C F s0 k i < 0 ∨ onF i < onF (mB C F s0 k i)) ∧ keI C F s0 k i = -1 then (i : Int) else mB C F s0 k i) = -1
            rw [if_neg (fun q => y ⟨q.1, q.2.2⟩)]
            exact a
          · rw [if_neg (fun q => y ⟨q.1, q.2.1⟩)]
            exact b
    · right
      rw [b]
      by_cases y : op_iand i F = 0 ∧ keI C F s0 k i = -1 ∧ onF i < onF (mB C F s0 k i)
      · rw [if_pos y, if_pos ⟨y.1, Or.inr y.2.2, y.2.1⟩]
        exact ⟨by omega, rfl⟩
      · rw [if_neg y, if_neg (fun q => y ⟨q.1, q.2.2, q.2.1.resolve_left (by omega)⟩)]
        exact ⟨a, rfl⟩
theorem cB_64 {C : Int → Int} {F s0 k : Int} (hC : wfC C) (hs : isSt s0) (hF : 0 ≤ F ∧ F < 64) (hk : 0 ≤ k ∧ k < 3) (he : ¬ enD s0 k) : cB C F s0 k 64 = mB C F s0 k 64 := by
  rcases cB_mB (k := k) hC hs hF hk he 64 (Nat.le_refl _) with ⟨_, _, c⟩ | ⟨_, b⟩
  · omega
  · exact b
