section RL
variable {γ : Gh} {X : MX} {d mc ms pc : Nat} {ls st : List PV} {K : Sk} {V : Mm} {Q : Option PV → Sk → Mm → Prop}
def sx (n : Int) : Int := (Int32.ofInt n).toInt
theorem sx_id {n : Int} (h : -2147483648 ≤ n ∧ n < 2147483648) : sx n = n := Int32.toInt_ofInt_of_le (by omega) (by omega)
theorem sx_lt (n : Int) : -2147483648 ≤ sx n ∧ sx n < 2147483648 := by
  have h1 := Int32.le_toInt (Int32.ofInt n)
  have h2 := Int32.toInt_lt (Int32.ofInt n)
  unfold sx
  omega
theorem sx_ofInt (n : Int) : Int32.ofInt (sx n) = Int32.ofInt n := Int32.ofInt_toInt _
theorem cV_ref {a : Nat} (h : a ≠ 0) : cV γ (vR a) = .ref (ad γ a) := by simp [cV, cR, h]
theorem cV_null : cV γ (vR 0) = .null := by simp [cV, cR]
/-- other words for the same state -/
theorem ev_eq {ls' st' : List PV} {K' : Sk} {V' : Mm} {pc' : Nat} (h : Ev γ X d mc ms pc' ls' st' K' V' Q) (e0 : pc = pc' := by rfl) (e1 : ls = ls' := by rfl) (e2 : st = st' := by rfl) (e3 : K = K' := by rfl) (e4 : V = V' := by rfl) : Ev γ X d mc ms pc ls st K V Q := by
  subst e0; subst e1; subst e2; subst e3; subst e4
  exact h
theorem ev_less {mc' ms' : Nat} (h : Ev γ X d mc' ms' pc ls st K V Q) (e1 : mc' ≤ mc) (e2 : ms' ≤ ms) : Ev γ X d mc ms pc ls st K V Q := by
  intro p l e s m args below meth c H locs als cells slots TC TS hc hh hl hf h1 h2
  exact h p l e s m args below meth c H locs als cells slots TC TS hc hh hl hf (by omega) (by omega)
theorem ev_iconst {n : Int} (hd : decode X.2.1 pc = .ok (.iconst n, 1))  (k : Ev γ X d mc ms (pc + 1) ls (vI n :: st) K V Q) : Ev γ X d mc ms pc ls st K V Q := by
  intro p l e s m args below meth c H locs als cells slots TC TS hc hh hl hf h1 h2
  exact lv_iconst hc.1 hc.2.1 hd rfl (k p l e s m args below meth c H locs als cells slots TC TS hc hh hl hf h1 h2)
theorem ev_bipush {n : Int} (hd : decode X.2.1 pc = .ok (.bipush n, 2)) (hb : (Int8.ofInt n).toInt32 = Int32.ofInt n) (k : Ev γ X d mc ms (pc + 2) ls (vI n :: st) K V Q) : Ev γ X d mc ms pc ls st K V Q := by
  intro p l e s m args below meth c H locs als cells slots TC TS hc hh hl hf h1 h2
  exact lv_bipush hc.1 hc.2.1 hd hb (k p l e s m args below meth c H locs als cells slots TC TS hc hh hl hf h1 h2)
theorem ev_sipush {n : Int} (hd : decode X.2.1 pc = .ok (.sipush n, 3)) (hb : (Int16.ofInt n).toInt32 = Int32.ofInt n) (k : Ev γ X d mc ms (pc + 3) ls (vI n :: st) K V Q) : Ev γ X d mc ms pc ls st K V Q := by
  intro p l e s m args below meth c H locs als cells slots TC TS hc hh hl hf h1 h2
  exact lv_sipush hc.1 hc.2.1 hd hb (k p l e s m args below meth c H locs als cells slots TC TS hc hh hl hf h1 h2)
theorem ev_lconst {n : Fin 2} {v : Int} (hd : decode X.2.1 pc = .ok (.lconst n, 1)) (hb : Int64.ofNat (n : Nat) = Int64.ofInt v) (k : Ev γ X d mc ms (pc + 1) ls (vL v :: st) K V Q) : Ev γ X d mc ms pc ls st K V Q := by
  intro p l e s m args below meth c H locs als cells slots TC TS hc hh hl hf h1 h2
  exact lv_lconst hc.1 hc.2.1 hd hb (k p l e s m args below meth c H locs als cells slots TC TS hc hh hl hf h1 h2)
theorem ev_ldc {n : Nat} {v : Int} {w : Int32} (hd : decode X.2.1 pc = .ok (.ldc n, 2)) (hw : Cond.constant X.1.cls n w ∈ tb) (hb : w = Int32.ofInt v) (k : Ev γ X d mc ms (pc + 2) ls (vI v :: st) K V Q) : Ev γ X d mc ms pc ls st K V Q := by
  intro p l e s m args below meth c H locs als cells slots TC TS hc hh hl hf h1 h2
  exact lv_ldc hc.1 hc.2.1 hc.2.2.2.1 (hc.2.2.2.2.1 _ (hb ▸ hw)) hd (k p l e s m args below meth c H locs als cells slots TC TS hc hh hl hf h1 h2)
theorem ev_ldcw {n : Nat} {v : Int} {w : Int32} (hd : decode X.2.1 pc = .ok (.ldc_w n, 3)) (hw : Cond.constant X.1.cls n w ∈ tb) (hb : w = Int32.ofInt v) (k : Ev γ X d mc ms (pc + 3) ls (vI v :: st) K V Q) : Ev γ X d mc ms pc ls st K V Q := by
  intro p l e s m args below meth c H locs als cells slots TC TS hc hh hl hf h1 h2
  exact lv_ldcw hc.1 hc.2.1 hc.2.2.2.1 (hc.2.2.2.2.1 _ (hb ▸ hw)) hd (k p l e s m args below meth c H locs als cells slots TC TS hc hh hl hf h1 h2)
theorem ev_ldc2 {n : Nat} {v : Int} {w : Int64} (hd : decode X.2.1 pc = .ok (.ldc2_w n, 3)) (hw : Cond.constantLong X.1.cls n w ∈ tb) (hb : w = Int64.ofInt v) (k : Ev γ X d mc ms (pc + 3) ls (vL v :: st) K V Q) : Ev γ X d mc ms pc ls st K V Q := by
  intro p l e s m args below meth c H locs als cells slots TC TS hc hh hl hf h1 h2
  exact lv_ldc2 hc.1 hc.2.1 hc.2.2.2.1 (hc.2.2.2.2.1 _ (hb ▸ hw)) hd (k p l e s m args below meth c H locs als cells slots TC TS hc hh hl hf h1 h2)
theorem ev_iload_n {i : Fin 4} {n : Int} (hd : decode X.2.1 pc = .ok (.iload_n i, 1)) (hv : ls[(i : Nat)]? = some (vI n)) (k : Ev γ X d mc ms (pc + 1) ls (vI n :: st) K V Q) : Ev γ X d mc ms pc ls st K V Q := by
  intro p l e s m args below meth c H locs als cells slots TC TS hc hh hl hf h1 h2
  exact lv_iload_n hc.1 hc.2.1 hd rfl (hl.2.2 _ _ hv) (k p l e s m args below meth c H locs als cells slots TC TS hc hh hl hf h1 h2)
theorem ev_iload {i : Nat} {n : Int} (hd : decode X.2.1 pc = .ok (.iload i, 2)) (hv : ls[i]? = some (vI n)) (k : Ev γ X d mc ms (pc + 2) ls (vI n :: st) K V Q) : Ev γ X d mc ms pc ls st K V Q := by
  intro p l e s m args below meth c H locs als cells slots TC TS hc hh hl hf h1 h2
  exact lv_iload hc.1 hc.2.1 hd (hl.2.2 _ _ hv) (k p l e s m args below meth c H locs als cells slots TC TS hc hh hl hf h1 h2)
theorem ev_lload_n {i : Fin 4} {n : Int} (hd : decode X.2.1 pc = .ok (.lload_n i, 1)) (hv : ls[(i : Nat)]? = some (vL n)) (k : Ev γ X d mc ms (pc + 1) ls (vL n :: st) K V Q) : Ev γ X d mc ms pc ls st K V Q := by
  intro p l e s m args below meth c H locs als cells slots TC TS hc hh hl hf h1 h2
  exact lv_lload_n hc.1 hc.2.1 hd rfl (hl.2.2 _ _ hv) (k p l e s m args below meth c H locs als cells slots TC TS hc hh hl hf h1 h2)
theorem ev_lload {i : Nat} {n : Int} (hd : decode X.2.1 pc = .ok (.lload i, 2)) (hv : ls[i]? = some (vL n)) (k : Ev γ X d mc ms (pc + 2) ls (vL n :: st) K V Q) : Ev γ X d mc ms pc ls st K V Q := by
  intro p l e s m args below meth c H locs als cells slots TC TS hc hh hl hf h1 h2
  exact lv_lload hc.1 hc.2.1 hd (hl.2.2 _ _ hv) (k p l e s m args below meth c H locs als cells slots TC TS hc hh hl hf h1 h2)
theorem ev_aload_n {i : Fin 4} {a : Nat} (hd : decode X.2.1 pc = .ok (.aload_n i, 1)) (hv : ls[(i : Nat)]? = some (vR a)) (k : Ev γ X d mc ms (pc + 1) ls (vR a :: st) K V Q) : Ev γ X d mc ms pc ls st K V Q := by
  intro p l e s m args below meth c H locs als cells slots TC TS hc hh hl hf h1 h2
  have k := k p l e s m args below meth c H locs als cells slots TC TS hc hh hl hf h1 h2
  have hv := hl.2.2 _ _ hv
  change W _ _ _ _ _ _ _ _ _ _ _ _ _ _ _ (F0 m (pc + 1) als (cV γ (vR a) :: st.map (cV γ))) at k
  by_cases ha : a = 0
  · subst ha
    rw [cV_null] at k hv
    exact lv_aload_nN hc.1 hc.2.1 hd rfl hv k
  · rw [cV_ref ha] at k hv
    exact lv_aload_n hc.1 hc.2.1 hd rfl hv k
theorem ev_aload {i : Nat} {a : Nat} (hd : decode X.2.1 pc = .ok (.aload i, 2)) (hv : ls[i]? = some (vR a)) (k : Ev γ X d mc ms (pc + 2) ls (vR a :: st) K V Q) : Ev γ X d mc ms pc ls st K V Q := by
  intro p l e s m args below meth c H locs als cells slots TC TS hc hh hl hf h1 h2
  have k := k p l e s m args below meth c H locs als cells slots TC TS hc hh hl hf h1 h2
  have hv := hl.2.2 _ _ hv
  change W _ _ _ _ _ _ _ _ _ _ _ _ _ _ _ (F0 m (pc + 2) als (cV γ (vR a) :: st.map (cV γ))) at k
  by_cases ha : a = 0
  · subst ha
    rw [cV_null] at k hv
    exact lv_aloadN hc.1 hc.2.1 hd hv k
  · rw [cV_ref ha] at k hv
    exact lv_aload hc.1 hc.2.1 hd hv k
theorem ev_istore_n {i : Fin 4} {n : Int} (hd : decode X.2.1 pc = .ok (.istore_n i, 1)) (hi : (i : Nat) < X.2.2.1) (k : Ev γ X d mc ms (pc + 1) (st1 ls (i : Nat) (vI n)) st K V Q) : Ev γ X d mc ms pc ls (vI n :: st) K V Q := by
  intro p l e s m args below meth c H locs als cells slots TC TS hc hh hl hf h1 h2
  refine lv_istore_n hc.1 hc.2.1 hd rfl hl.has hi rfl fun als' hl' => ?_
  exact k p l e s m args below meth c H locs als' cells slots TC TS hc hh (lvr_st1 (v := vI n) rfl hl') hf h1 h2
theorem ev_istore {i : Nat} {n : Int} (hd : decode X.2.1 pc = .ok (.istore i, 2)) (hi : i < X.2.2.1) (k : Ev γ X d mc ms (pc + 2) (st1 ls i (vI n)) st K V Q) : Ev γ X d mc ms pc ls (vI n :: st) K V Q := by
  intro p l e s m args below meth c H locs als cells slots TC TS hc hh hl hf h1 h2
  refine lv_istore hc.1 hc.2.1 hd hl.has hi rfl fun als' hl' => ?_
  exact k p l e s m args below meth c H locs als' cells slots TC TS hc hh (lvr_st1 (v := vI n) rfl hl') hf h1 h2
theorem ev_lstore_n {i : Fin 4} {n : Int} (hd : decode X.2.1 pc = .ok (.lstore_n i, 1)) (hi : (i : Nat) + 1 < X.2.2.1) (k : Ev γ X d mc ms (pc + 1) (st2 ls (i : Nat) (vL n)) st K V Q) : Ev γ X d mc ms pc ls (vL n :: st) K V Q := by
  intro p l e s m args below meth c H locs als cells slots TC TS hc hh hl hf h1 h2
  refine lv_lstore_n hc.1 hc.2.1 hd rfl hl.has hi rfl fun als' hl' => ?_
  exact k p l e s m args below meth c H locs als' cells slots TC TS hc hh (lvr_st2 (v := vL n) rfl hl') hf h1 h2
theorem ev_lstore {i : Nat} {n : Int} (hd : decode X.2.1 pc = .ok (.lstore i, 2)) (hi : i + 1 < X.2.2.1) (k : Ev γ X d mc ms (pc + 2) (st2 ls i (vL n)) st K V Q) : Ev γ X d mc ms pc ls (vL n :: st) K V Q := by
  intro p l e s m args below meth c H locs als cells slots TC TS hc hh hl hf h1 h2
  refine lv_lstore hc.1 hc.2.1 hd hl.has hi rfl fun als' hl' => ?_
  exact k p l e s m args below meth c H locs als' cells slots TC TS hc hh (lvr_st2 (v := vL n) rfl hl') hf h1 h2
theorem ev_astore_n {i : Fin 4} {a : Nat} (hd : decode X.2.1 pc = .ok (.astore_n i, 1)) (hi : (i : Nat) < X.2.2.1) (k : Ev γ X d mc ms (pc + 1) (st1 ls (i : Nat) (vR a)) st K V Q) : Ev γ X d mc ms pc ls (vR a :: st) K V Q := by
  intro p l e s m args below meth c H locs als cells slots TC TS hc hh hl hf h1 h2
  show W _ _ _ _ _ _ _ _ _ _ _ _ _ _ _ (F0 m pc als (cV γ (vR a) :: st.map (cV γ)))
  by_cases ha : a = 0
  · subst ha
    rw [cV_null]
    refine lv_astore_nN hc.1 hc.2.1 hd rfl hl.has hi rfl fun als' hl' => ?_
    exact k p l e s m args below meth c H locs als' cells slots TC TS hc hh (lvr_st1 (v := vR 0) cV_null.symm hl') hf h1 h2
  · rw [cV_ref ha]
    refine lv_astore_n hc.1 hc.2.1 hd rfl hl.has hi rfl fun als' hl' => ?_
    exact k p l e s m args below meth c H locs als' cells slots TC TS hc hh (lvr_st1 (v := vR a) (cV_ref ha).symm hl') hf h1 h2
theorem ev_astore {i : Nat} {a : Nat} (hd : decode X.2.1 pc = .ok (.astore i, 2)) (hi : i < X.2.2.1) (k : Ev γ X d mc ms (pc + 2) (st1 ls i (vR a)) st K V Q) : Ev γ X d mc ms pc ls (vR a :: st) K V Q := by
  intro p l e s m args below meth c H locs als cells slots TC TS hc hh hl hf h1 h2
  show W _ _ _ _ _ _ _ _ _ _ _ _ _ _ _ (F0 m pc als (cV γ (vR a) :: st.map (cV γ)))
  by_cases ha : a = 0
  · subst ha
    rw [cV_null]
    refine lv_astoreN hc.1 hc.2.1 hd hl.has hi rfl fun als' hl' => ?_
    exact k p l e s m args below meth c H locs als' cells slots TC TS hc hh (lvr_st1 (v := vR 0) cV_null.symm hl') hf h1 h2
  · rw [cV_ref ha]
    refine lv_astore hc.1 hc.2.1 hd hl.has hi rfl fun als' hl' => ?_
    exact k p l e s m args below meth c H locs als' cells slots TC TS hc hh (lvr_st1 (v := vR a) (cV_ref ha).symm hl') hf h1 h2
theorem ev_iinc {i : Nat} {n x : Int} (hd : decode X.2.1 pc = .ok (.iinc i n, 3)) (hv : ls[i]? = some (vI x)) (hi : i < X.2.2.1) (k : Ev γ X d mc ms (pc + 3) (st1 ls i (vI (x + n))) st K V Q) : Ev γ X d mc ms pc ls st K V Q := by
  intro p l e s m args below meth c H locs als cells slots TC TS hc hh hl hf h1 h2
  have hm : (i, Value.int (Int32.ofInt x)) ∈ toA γ ls := mem_toA.mpr ⟨_, hv, rfl⟩
  obtain ⟨kk, hk⟩ := List.getElem?_of_mem hm
  refine lv_iinc hc.1 hc.2.1 hd hl.has hk rfl hi rfl fun als' hl' => ?_
  exact k p l e s m args below meth c H locs als' cells slots TC TS hc hh (lvr_st1 (v := vI (x + n)) (by simp [cV]) hl') hf h1 h2
theorem ev_iadd {x y : Int} (hd : decode X.2.1 pc = .ok (.iadd, 1)) (k : Ev γ X d mc ms (pc + 1) ls (vI (x + y) :: st) K V Q) : Ev γ X d mc ms pc ls (vI y :: vI x :: st) K V Q := by
  intro p l e s m args below meth c H locs als cells slots TC TS hc hh hl hf h1 h2
  refine lv_iadd hc.1 hc.2.1 hd ?_
  rw [← Int32.ofInt_add]
  exact k p l e s m args below meth c H locs als cells slots TC TS hc hh hl hf h1 h2
theorem ev_isub {x y : Int} (hd : decode X.2.1 pc = .ok (.isub, 1)) (k : Ev γ X d mc ms (pc + 1) ls (vI (x - y) :: st) K V Q) : Ev γ X d mc ms pc ls (vI y :: vI x :: st) K V Q := by
  intro p l e s m args below meth c H locs als cells slots TC TS hc hh hl hf h1 h2
  refine lv_isub hc.1 hc.2.1 hd ?_
  rw [← Int32.ofInt_sub]
  exact k p l e s m args below meth c H locs als cells slots TC TS hc hh hl hf h1 h2
theorem ev_imul {x y : Int} (hd : decode X.2.1 pc = .ok (.imul, 1)) (k : Ev γ X d mc ms (pc + 1) ls (vI (x * y) :: st) K V Q) : Ev γ X d mc ms pc ls (vI y :: vI x :: st) K V Q := by
  intro p l e s m args below meth c H locs als cells slots TC TS hc hh hl hf h1 h2
  refine lv_imul hc.1 hc.2.1 hd ?_
  rw [← Int32.ofInt_mul]
  exact k p l e s m args below meth c H locs als cells slots TC TS hc hh hl hf h1 h2
theorem ev_ladd {x y : Int} (hd : decode X.2.1 pc = .ok (.ladd, 1)) (k : Ev γ X d mc ms (pc + 1) ls (vL (x + y) :: st) K V Q) : Ev γ X d mc ms pc ls (vL y :: vL x :: st) K V Q := by
  intro p l e s m args below meth c H locs als cells slots TC TS hc hh hl hf h1 h2
  refine lv_ladd hc.1 hc.2.1 hd ?_
  rw [← Int64.ofInt_add]
  exact k p l e s m args below meth c H locs als cells slots TC TS hc hh hl hf h1 h2
theorem ev_lmul {x y : Int} (hd : decode X.2.1 pc = .ok (.lmul, 1)) (k : Ev γ X d mc ms (pc + 1) ls (vL (x * y) :: st) K V Q) : Ev γ X d mc ms pc ls (vL y :: vL x :: st) K V Q := by
  intro p l e s m args below meth c H locs als cells slots TC TS hc hh hl hf h1 h2
  refine lv_lmul hc.1 hc.2.1 hd ?_
  rw [← Int64.ofInt_mul]
  exact k p l e s m args below meth c H locs als cells slots TC TS hc hh hl hf h1 h2
theorem ev_ineg {x : Int} (hd : decode X.2.1 pc = .ok (.ineg, 1)) (k : Ev γ X d mc ms (pc + 1) ls (vI (-x) :: st) K V Q) : Ev γ X d mc ms pc ls (vI x :: st) K V Q := by
  intro p l e s m args below meth c H locs als cells slots TC TS hc hh hl hf h1 h2
  refine lv_ineg hc.1 hc.2.1 hd ?_
  rw [← Int32.ofInt_neg]
  exact k p l e s m args below meth c H locs als cells slots TC TS hc hh hl hf h1 h2
/-- iand, as the machine works it out -/
def op_iand (x y : Int) : Int := (Int32.ofInt x &&& Int32.ofInt y).toInt
theorem ev_iand {x y : Int} (hd : decode X.2.1 pc = .ok (.iand, 1)) (k : Ev γ X d mc ms (pc + 1) ls (vI (op_iand x y) :: st) K V Q) : Ev γ X d mc ms pc ls (vI y :: vI x :: st) K V Q := by
  intro p l e s m args below meth c H locs als cells slots TC TS hc hh hl hf h1 h2
  refine lv_iand hc.1 hc.2.1 hd ?_
  have k := k p l e s m args below meth c H locs als cells slots TC TS hc hh hl hf h1 h2
  simp only [List.map_cons, cV, op_iand, Int32.ofInt_toInt, Int64.ofInt_toInt] at k
  exact k
/-- ior, as the machine works it out -/
def op_ior (x y : Int) : Int := (Int32.ofInt x ||| Int32.ofInt y).toInt
theorem ev_ior {x y : Int} (hd : decode X.2.1 pc = .ok (.ior, 1)) (k : Ev γ X d mc ms (pc + 1) ls (vI (op_ior x y) :: st) K V Q) : Ev γ X d mc ms pc ls (vI y :: vI x :: st) K V Q := by
  intro p l e s m args below meth c H locs als cells slots TC TS hc hh hl hf h1 h2
  refine lv_ior hc.1 hc.2.1 hd ?_
  have k := k p l e s m args below meth c H locs als cells slots TC TS hc hh hl hf h1 h2
  simp only [List.map_cons, cV, op_ior, Int32.ofInt_toInt, Int64.ofInt_toInt] at k
  exact k
/-- ixor, as the machine works it out -/
def op_ixor (x y : Int) : Int := (Int32.ofInt x ^^^ Int32.ofInt y).toInt
theorem ev_ixor {x y : Int} (hd : decode X.2.1 pc = .ok (.ixor, 1)) (k : Ev γ X d mc ms (pc + 1) ls (vI (op_ixor x y) :: st) K V Q) : Ev γ X d mc ms pc ls (vI y :: vI x :: st) K V Q := by
  intro p l e s m args below meth c H locs als cells slots TC TS hc hh hl hf h1 h2
  refine lv_ixor hc.1 hc.2.1 hd ?_
  have k := k p l e s m args below meth c H locs als cells slots TC TS hc hh hl hf h1 h2
  simp only [List.map_cons, cV, op_ixor, Int32.ofInt_toInt, Int64.ofInt_toInt] at k
  exact k
/-- ishl, as the machine works it out -/
def op_ishl (x y : Int) : Int := (Int32.ofInt x <<< (Int32.ofInt y &&& 31)).toInt
theorem ev_ishl {x y : Int} (hd : decode X.2.1 pc = .ok (.ishl, 1)) (k : Ev γ X d mc ms (pc + 1) ls (vI (op_ishl x y) :: st) K V Q) : Ev γ X d mc ms pc ls (vI y :: vI x :: st) K V Q := by
  intro p l e s m args below meth c H locs als cells slots TC TS hc hh hl hf h1 h2
  refine lv_ishl hc.1 hc.2.1 hd ?_
  have k := k p l e s m args below meth c H locs als cells slots TC TS hc hh hl hf h1 h2
  simp only [List.map_cons, cV, op_ishl, Int32.ofInt_toInt, Int64.ofInt_toInt] at k
  exact k
/-- ishr, as the machine works it out -/
def op_ishr (x y : Int) : Int := (Int32.ofInt x >>> (Int32.ofInt y &&& 31)).toInt
theorem ev_ishr {x y : Int} (hd : decode X.2.1 pc = .ok (.ishr, 1)) (k : Ev γ X d mc ms (pc + 1) ls (vI (op_ishr x y) :: st) K V Q) : Ev γ X d mc ms pc ls (vI y :: vI x :: st) K V Q := by
  intro p l e s m args below meth c H locs als cells slots TC TS hc hh hl hf h1 h2
  refine lv_ishr hc.1 hc.2.1 hd ?_
  have k := k p l e s m args below meth c H locs als cells slots TC TS hc hh hl hf h1 h2
  simp only [List.map_cons, cV, op_ishr, Int32.ofInt_toInt, Int64.ofInt_toInt] at k
  exact k
/-- iushr, as the machine works it out -/
def op_iushr (x y : Int) : Int := (((Int32.ofInt x).toUInt32 >>> ((Int32.ofInt y).toUInt32 &&& Int32.toUInt32 31)).toInt32).toInt
theorem ev_iushr {x y : Int} (hd : decode X.2.1 pc = .ok (.iushr, 1)) (k : Ev γ X d mc ms (pc + 1) ls (vI (op_iushr x y) :: st) K V Q) : Ev γ X d mc ms pc ls (vI y :: vI x :: st) K V Q := by
  intro p l e s m args below meth c H locs als cells slots TC TS hc hh hl hf h1 h2
  refine lv_iushr hc.1 hc.2.1 hd rfl ?_
  have k := k p l e s m args below meth c H locs als cells slots TC TS hc hh hl hf h1 h2
  simp only [List.map_cons, cV, op_iushr, Int32.ofInt_toInt, Int64.ofInt_toInt] at k
  exact k
/-- land, as the machine works it out -/
def op_land (x y : Int) : Int := (Int64.ofInt x &&& Int64.ofInt y).toInt
theorem ev_land {x y : Int} (hd : decode X.2.1 pc = .ok (.land, 1)) (k : Ev γ X d mc ms (pc + 1) ls (vL (op_land x y) :: st) K V Q) : Ev γ X d mc ms pc ls (vL y :: vL x :: st) K V Q := by
  intro p l e s m args below meth c H locs als cells slots TC TS hc hh hl hf h1 h2
  refine lv_land hc.1 hc.2.1 hd ?_
  have k := k p l e s m args below meth c H locs als cells slots TC TS hc hh hl hf h1 h2
  simp only [List.map_cons, cV, op_land, Int32.ofInt_toInt, Int64.ofInt_toInt] at k
  exact k
/-- lor, as the machine works it out -/
def op_lor (x y : Int) : Int := (Int64.ofInt x ||| Int64.ofInt y).toInt
theorem ev_lor {x y : Int} (hd : decode X.2.1 pc = .ok (.lor, 1)) (k : Ev γ X d mc ms (pc + 1) ls (vL (op_lor x y) :: st) K V Q) : Ev γ X d mc ms pc ls (vL y :: vL x :: st) K V Q := by
  intro p l e s m args below meth c H locs als cells slots TC TS hc hh hl hf h1 h2
  refine lv_lor hc.1 hc.2.1 hd ?_
  have k := k p l e s m args below meth c H locs als cells slots TC TS hc hh hl hf h1 h2
  simp only [List.map_cons, cV, op_lor, Int32.ofInt_toInt, Int64.ofInt_toInt] at k
  exact k
/-- lxor, as the machine works it out -/
def op_lxor (x y : Int) : Int := (Int64.ofInt x ^^^ Int64.ofInt y).toInt
theorem ev_lxor {x y : Int} (hd : decode X.2.1 pc = .ok (.lxor, 1)) (k : Ev γ X d mc ms (pc + 1) ls (vL (op_lxor x y) :: st) K V Q) : Ev γ X d mc ms pc ls (vL y :: vL x :: st) K V Q := by
  intro p l e s m args below meth c H locs als cells slots TC TS hc hh hl hf h1 h2
  refine lv_lxor hc.1 hc.2.1 hd ?_
  have k := k p l e s m args below meth c H locs als cells slots TC TS hc hh hl hf h1 h2
  simp only [List.map_cons, cV, op_lxor, Int32.ofInt_toInt, Int64.ofInt_toInt] at k
  exact k
/-- lushr, as the machine works it out -/
def op_lushr (x y : Int) : Int := (((Int64.ofInt x).toUInt64 >>> ((Int32.ofInt y).toInt64.toUInt64 &&& Int64.toUInt64 63)).toInt64).toInt
theorem ev_lushr {x y : Int} (hd : decode X.2.1 pc = .ok (.lushr, 1)) (k : Ev γ X d mc ms (pc + 1) ls (vL (op_lushr x y) :: st) K V Q) : Ev γ X d mc ms pc ls (vI y :: vL x :: st) K V Q := by
  intro p l e s m args below meth c H locs als cells slots TC TS hc hh hl hf h1 h2
  refine lv_lushr hc.1 hc.2.1 hd rfl ?_
  have k := k p l e s m args below meth c H locs als cells slots TC TS hc hh hl hf h1 h2
  simp only [List.map_cons, cV, op_lushr, Int32.ofInt_toInt, Int64.ofInt_toInt] at k
  exact k
/-- lshl, as the machine works it out -/
def op_lshl (x y : Int) : Int := (Int64.ofInt x <<< ((Int32.ofInt y).toInt64 &&& 63)).toInt
theorem ev_lshl {x y : Int} (hd : decode X.2.1 pc = .ok (.lshl, 1)) (k : Ev γ X d mc ms (pc + 1) ls (vL (op_lshl x y) :: st) K V Q) : Ev γ X d mc ms pc ls (vI y :: vL x :: st) K V Q := by
  intro p l e s m args below meth c H locs als cells slots TC TS hc hh hl hf h1 h2
  refine lv_lshl hc.1 hc.2.1 hd rfl ?_
  have k := k p l e s m args below meth c H locs als cells slots TC TS hc hh hl hf h1 h2
  simp only [List.map_cons, cV, op_lshl, Int32.ofInt_toInt, Int64.ofInt_toInt] at k
  exact k
/-- lshr, as the machine works it out -/
def op_lshr (x y : Int) : Int := (Int64.ofInt x >>> ((Int32.ofInt y).toInt64 &&& 63)).toInt
theorem ev_lshr {x y : Int} (hd : decode X.2.1 pc = .ok (.lshr, 1)) (k : Ev γ X d mc ms (pc + 1) ls (vL (op_lshr x y) :: st) K V Q) : Ev γ X d mc ms pc ls (vI y :: vL x :: st) K V Q := by
  intro p l e s m args below meth c H locs als cells slots TC TS hc hh hl hf h1 h2
  refine lv_lshr hc.1 hc.2.1 hd rfl ?_
  have k := k p l e s m args below meth c H locs als cells slots TC TS hc hh hl hf h1 h2
  simp only [List.map_cons, cV, op_lshr, Int32.ofInt_toInt, Int64.ofInt_toInt] at k
  exact k
/-- division and rest as the machine works them out -/
def op_idiv (x y : Int) : Int := (Int32.ofInt x / Int32.ofInt y).toInt
def op_irem (x y : Int) : Int := (Int32.ofInt x - Int32.ofInt x / Int32.ofInt y * Int32.ofInt y).toInt
theorem i32_ne0 {y : Int} (h : -2147483648 ≤ y ∧ y < 2147483648) (h0 : y ≠ 0) : ¬ Int32.ofInt y = 0 := fun q => h0 (by
  have := congrArg Int32.toInt q
  rw [Int32.toInt_ofInt_of_le (by omega) (by omega)] at this
  exact this)
theorem ev_idivg {x y : Int} (hd : decode X.2.1 pc = .ok (.idiv, 1)) (hy : ¬ Int32.ofInt y = 0) (k : Ev γ X d mc ms (pc + 1) ls (vI (op_idiv x y) :: st) K V Q) : Ev γ X d mc ms pc ls (vI y :: vI x :: st) K V Q := by
  intro p l e s m args below meth c H locs als cells slots TC TS hc hh hl hf h1 h2
  refine lv_idiv hc.1 hc.2.1 hd hy ?_
  have k := k p l e s m args below meth c H locs als cells slots TC TS hc hh hl hf h1 h2
  simp only [List.map_cons, cV, op_idiv, Int32.ofInt_toInt] at k
  exact k
theorem ev_iremg {x y : Int} (hd : decode X.2.1 pc = .ok (.irem, 1)) (hy : ¬ Int32.ofInt y = 0) (k : Ev γ X d mc ms (pc + 1) ls (vI (op_irem x y) :: st) K V Q) : Ev γ X d mc ms pc ls (vI y :: vI x :: st) K V Q := by
  intro p l e s m args below meth c H locs als cells slots TC TS hc hh hl hf h1 h2
  refine lv_irem hc.1 hc.2.1 hd hy ?_
  have k := k p l e s m args below meth c H locs als cells slots TC TS hc hh hl hf h1 h2
  simp only [List.map_cons, cV, op_irem, Int32.ofInt_toInt] at k
  exact k
theorem op_idiv_nn {x y : Int} (hx : 0 ≤ x ∧ x < 2147483648) (hy : 0 < y ∧ y < 2147483648) : op_idiv x y = x / y := by
  unfold op_idiv
  rw [Int32.toInt_div_of_ne_right _ _ (fun q => by
    have := congrArg Int32.toInt q
    rw [Int32.toInt_ofInt_of_le (by omega) (by omega)] at this
    rw [this] at hy
    exact absurd hy.1 (by decide)), Int32.toInt_ofInt_of_le (by omega) (by omega), Int32.toInt_ofInt_of_le (by omega) (by omega)]
  exact Int.tdiv_eq_ediv_of_nonneg hx.1
theorem op_irem_nn {x y : Int} (hx : 0 ≤ x ∧ x < 2147483648) (hy : 0 < y ∧ y < 2147483648) : op_irem x y = x % y := by
  have h := op_idiv_nn hx hy
  have h3 : Int32.ofInt x / Int32.ofInt y = Int32.ofInt (x / y) := by
    rw [← h]
    unfold op_idiv
    rw [Int32.ofInt_toInt]
  have h4 : x - x / y * y = x % y := by
    have := Int.mul_ediv_add_emod x y
    rw [Int.mul_comm] at this
    omega
  have h5 : x % y < y := Int.emod_lt_of_pos _ hy.1
  have h6 : 0 ≤ x % y := Int.emod_nonneg _ (by omega)
  unfold op_irem
  rw [h3, ← Int32.ofInt_mul, ← Int32.ofInt_sub, h4]
  exact Int32.toInt_ofInt_of_le (by omega) (by omega)
theorem ev_idiv {x y : Int} (hd : decode X.2.1 pc = .ok (.idiv, 1)) (hx : 0 ≤ x ∧ x < 2147483648) (hy : 0 < y ∧ y < 2147483648) (k : Ev γ X d mc ms (pc + 1) ls (vI (x / y) :: st) K V Q) : Ev γ X d mc ms pc ls (vI y :: vI x :: st) K V Q :=
  ev_idivg hd (i32_ne0 ⟨by omega, hy.2⟩ (by omega)) (by rw [op_idiv_nn hx hy]; exact k)
theorem ev_irem {x y : Int} (hd : decode X.2.1 pc = .ok (.irem, 1)) (hx : 0 ≤ x ∧ x < 2147483648) (hy : 0 < y ∧ y < 2147483648) (k : Ev γ X d mc ms (pc + 1) ls (vI (x % y) :: st) K V Q) : Ev γ X d mc ms pc ls (vI y :: vI x :: st) K V Q :=
  ev_iremg hd (i32_ne0 ⟨by omega, hy.2⟩ (by omega)) (by rw [op_irem_nn hx hy]; exact k)
theorem ev_i2lg {x : Int} (hd : decode X.2.1 pc = .ok (.i2l, 1)) (k : Ev γ X d mc ms (pc + 1) ls (vL (sx x) :: st) K V Q) : Ev γ X d mc ms pc ls (vI x :: st) K V Q := by
  intro p l e s m args below meth c H locs als cells slots TC TS hc hh hl hf h1 h2
  refine lv_i2l hc.1 hc.2.1 hd ?_ (k p l e s m args below meth c H locs als cells slots TC TS hc hh hl hf h1 h2)
  exact Int64.toInt_inj.mp (by rw [Int32.toInt_toInt64]; exact (Int64.toInt_ofInt_of_le (by have := sx_lt x; unfold sx at this; omega) (by have := sx_lt x; unfold sx at this; omega)).symm)
theorem ev_i2l {x : Int} (hd : decode X.2.1 pc = .ok (.i2l, 1)) (hx : -2147483648 ≤ x ∧ x < 2147483648) (k : Ev γ X d mc ms (pc + 1) ls (vL x :: st) K V Q) : Ev γ X d mc ms pc ls (vI x :: st) K V Q := ev_i2lg hd (by rw [sx_id hx]; exact k)
theorem ev_l2i {x : Int} (hd : decode X.2.1 pc = .ok (.l2i, 1)) (k : Ev γ X d mc ms (pc + 1) ls (vI x :: st) K V Q) : Ev γ X d mc ms pc ls (vL x :: st) K V Q := by
  intro p l e s m args below meth c H locs als cells slots TC TS hc hh hl hf h1 h2
  refine lv_l2i hc.1 hc.2.1 hd ?_ (k p l e s m args below meth c H locs als cells slots TC TS hc hh hl hf h1 h2)
  exact Int64.toInt32_ofInt
def op_i2c (x : Int) : Int := (((Int32.ofInt x).toUInt32 % 65536).toInt32).toInt
theorem ev_i2c {x : Int} (hd : decode X.2.1 pc = .ok (.i2c, 1)) (k : Ev γ X d mc ms (pc + 1) ls (vI (op_i2c x) :: st) K V Q) : Ev γ X d mc ms pc ls (vI x :: st) K V Q := by
  intro p l e s m args below meth c H locs als cells slots TC TS hc hh hl hf h1 h2
  refine lv_i2c hc.1 hc.2.1 hd ?_ (k p l e s m args below meth c H locs als cells slots TC TS hc hh hl hf h1 h2)
  exact (Int32.ofInt_toInt _).symm
def op_i2b (x : Int) : Int := ((Int32.ofInt x).toInt8.toInt32).toInt
theorem ev_i2b {x : Int} (hd : decode X.2.1 pc = .ok (.i2b, 1)) (k : Ev γ X d mc ms (pc + 1) ls (vI (op_i2b x) :: st) K V Q) : Ev γ X d mc ms pc ls (vI x :: st) K V Q := by
  intro p l e s m args below meth c H locs als cells slots TC TS hc hh hl hf h1 h2
  refine lv_i2b hc.1 hc.2.1 hd ?_ (k p l e s m args below meth c H locs als cells slots TC TS hc hh hl hf h1 h2)
  exact (Int32.ofInt_toInt _).symm
def op_i2s (x : Int) : Int := ((Int32.ofInt x).toInt16.toInt32).toInt
theorem ev_i2s {x : Int} (hd : decode X.2.1 pc = .ok (.i2s, 1)) (k : Ev γ X d mc ms (pc + 1) ls (vI (op_i2s x) :: st) K V Q) : Ev γ X d mc ms pc ls (vI x :: st) K V Q := by
  intro p l e s m args below meth c H locs als cells slots TC TS hc hh hl hf h1 h2
  refine lv_i2s hc.1 hc.2.1 hd ?_ (k p l e s m args below meth c H locs als cells slots TC TS hc hh hl hf h1 h2)
  exact (Int32.ofInt_toInt _).symm
theorem ev_lcmp {x y : Int} (hd : decode X.2.1 pc = .ok (.lcmp, 1)) (hx : -9223372036854775808 ≤ x ∧ x < 9223372036854775808) (hy : -9223372036854775808 ≤ y ∧ y < 9223372036854775808) (k : Ev γ X d mc ms (pc + 1) ls (vI (if x < y then -1 else if x = y then 0 else 1) :: st) K V Q) : Ev γ X d mc ms pc ls (vL y :: vL x :: st) K V Q := by
  intro p l e s m args below meth c H locs als cells slots TC TS hc hh hl hf h1 h2
  refine W.lcmp hc.1 hc.2.1 hd ?_
  have k := k p l e s m args below meth c H locs als cells slots TC TS hc hh hl hf h1 h2
  have e1 : (Int64.ofInt x).toInt = x := Int64.toInt_ofInt_of_le (by omega) (by omega)
  have e2 : (Int64.ofInt y).toInt = y := Int64.toInt_ofInt_of_le (by omega) (by omega)
  have e : Int32.ofInt (if x < y then -1 else if x = y then 0 else 1) = lg_cmp (Int64.ofInt x) (Int64.ofInt y) := by
    unfold lg_cmp
    simp only [Int64.lt_iff_toInt_lt, ← Int64.toInt_inj, e1, e2]
    split
    · rw [if_neg (by omega), if_neg (by omega)]; rfl
    · split
      · rw [if_neg (by omega)]; rfl
      · rw [if_pos (by omega)]; rfl
  rw [← e]
  exact k
theorem ev_lcmpN {x y : Int} (hd : decode X.2.1 pc = .ok (.lcmp, 1)) (hx : -9223372036854775808 ≤ x ∧ x < 9223372036854775808) (hy : -9223372036854775808 ≤ y ∧ y < 9223372036854775808) (k : ∀ c, (c = -1 ∧ x < y) ∨ (c = 0 ∧ x = y) ∨ (c = 1 ∧ y < x) → Ev γ X d mc ms (pc + 1) ls (vI c :: st) K V Q) : Ev γ X d mc ms pc ls (vL y :: vL x :: st) K V Q := by
  refine ev_lcmp hd hx hy (k _ ?_)
  split
  · exact Or.inl ⟨rfl, by omega⟩
  · split
    · exact Or.inr (Or.inl ⟨rfl, by omega⟩)
    · exact Or.inr (Or.inr ⟨rfl, by omega⟩)
theorem ev_lcmpS {x : Int} (hd : decode X.2.1 pc = .ok (.lcmp, 1)) (k : Ev γ X d mc ms (pc + 1) ls (vI 0 :: st) K V Q) : Ev γ X d mc ms pc ls (vL x :: vL x :: st) K V Q := by
  intro p l e s m args below meth c H locs als cells slots TC TS hc hh hl hf h1 h2
  refine W.lcmp hc.1 hc.2.1 hd ?_
  have ee : lg_cmp (Int64.ofInt x) (Int64.ofInt x) = 0 := by
    unfold lg_cmp
    rw [if_neg (by simp), if_pos rfl]
  rw [ee]
  exact k p l e s m args below meth c H locs als cells slots TC TS hc hh hl hf h1 h2
theorem ev_icmp_eqS {x off : Int} {tgt : Nat} (hd : decode X.2.1 pc = .ok (.if_icmp .eq off, 3)) (ht : (pc : Int) + off = (tgt : Int)) (k : Ev γ X d mc ms tgt ls st K V Q) : Ev γ X d mc ms pc ls (vI x :: vI x :: st) K V Q := by
  intro p l e s m args below meth c H locs als cells slots TC TS hc hh hl hf h1 h2
  exact lv_icmp_eq hc.1 hc.2.1 hd ht (fun _ => k p l e s m args below meth c H locs als cells slots TC TS hc hh hl hf h1 h2) (fun q => absurd rfl q)
theorem cV_cat1 {v : PV} (h : ∀ n, v ≠ vL n) : (cV γ v).category = 1 := by
  rcases v with _ | n | n | a
  · rfl
  · rfl
  · exact absurd rfl (h n)
  · simp only [cV, cR]
    split <;> rfl
theorem ev_dup {v : PV} (hd : decode X.2.1 pc = .ok (.dup, 1)) (hv : ∀ n, v ≠ vL n) (k : Ev γ X d mc ms (pc + 1) ls (v :: v :: st) K V Q) : Ev γ X d mc ms pc ls (v :: st) K V Q := by
  intro p l e s m args below meth c H locs als cells slots TC TS hc hh hl hf h1 h2
  exact lv_dup hc.1 hc.2.1 hd (cV_cat1 hv) (k p l e s m args below meth c H locs als cells slots TC TS hc hh hl hf h1 h2)
theorem ev_pop {v : PV} (hd : decode X.2.1 pc = .ok (.pop, 1)) (hv : ∀ n, v ≠ vL n) (k : Ev γ X d mc ms (pc + 1) ls st K V Q) : Ev γ X d mc ms pc ls (v :: st) K V Q := by
  intro p l e s m args below meth c H locs als cells slots TC TS hc hh hl hf h1 h2
  exact lv_pop hc.1 hc.2.1 hd (cV_cat1 hv) (k p l e s m args below meth c H locs als cells slots TC TS hc hh hl hf h1 h2)
theorem ev_dup2 {v w : PV} (hd : decode X.2.1 pc = .ok (.dup2, 1)) (hv : ∀ n, v ≠ vL n) (hw : ∀ n, w ≠ vL n) (k : Ev γ X d mc ms (pc + 1) ls (v :: w :: v :: w :: st) K V Q) : Ev γ X d mc ms pc ls (v :: w :: st) K V Q := by
  intro p l e s m args below meth c H locs als cells slots TC TS hc hh hl hf h1 h2
  exact lv_dup2_11 hc.1 hc.2.1 hd (cV_cat1 hv) (cV_cat1 hw) (k p l e s m args below meth c H locs als cells slots TC TS hc hh hl hf h1 h2)
theorem i_eq {x y : Int} (hx : -2147483648 ≤ x ∧ x < 2147483648) (hy : -2147483648 ≤ y ∧ y < 2147483648) : Int32.ofInt x = Int32.ofInt y ↔ x = y := by
  rw [← Int32.toInt_inj, Int32.toInt_ofInt_of_le (by omega) (by omega), Int32.toInt_ofInt_of_le (by omega) (by omega)]
theorem i_lt {x y : Int} (hx : -2147483648 ≤ x ∧ x < 2147483648) (hy : -2147483648 ≤ y ∧ y < 2147483648) : Int32.ofInt x < Int32.ofInt y ↔ x < y := by
  rw [Int32.lt_iff_toInt_lt, Int32.toInt_ofInt_of_le (by omega) (by omega), Int32.toInt_ofInt_of_le (by omega) (by omega)]
theorem i_le {x y : Int} (hx : -2147483648 ≤ x ∧ x < 2147483648) (hy : -2147483648 ≤ y ∧ y < 2147483648) : Int32.ofInt x ≤ Int32.ofInt y ↔ x ≤ y := by
  rw [Int32.le_iff_toInt_le, Int32.toInt_ofInt_of_le (by omega) (by omega), Int32.toInt_ofInt_of_le (by omega) (by omega)]
theorem ev_icmp_eq {x y off : Int} {tgt : Nat} (hd : decode X.2.1 pc = .ok (.if_icmp .eq off, 3)) (ht : (pc : Int) + off = (tgt : Int)) (hx : -2147483648 ≤ x ∧ x < 2147483648) (hy : -2147483648 ≤ y ∧ y < 2147483648) (kt : x = y → Ev γ X d mc ms tgt ls st K V Q) (kf : ¬ (x = y) → Ev γ X d mc ms (pc + 3) ls st K V Q) : Ev γ X d mc ms pc ls (vI y :: vI x :: st) K V Q := by
  intro p l e s m args below meth c H locs als cells slots TC TS hc hh hl hf h1 h2
  refine lv_icmp_eq hc.1 hc.2.1 hd ht (fun q => kt ((i_eq hx hy).mp q) p l e s m args below meth c H locs als cells slots TC TS hc hh hl hf h1 h2) (fun q => kf (fun z => q ((i_eq hx hy).mpr z)) p l e s m args below meth c H locs als cells slots TC TS hc hh hl hf h1 h2)
theorem ev_if_eq {x off : Int} {tgt : Nat} (hd : decode X.2.1 pc = .ok (.ifCond .eq off, 3)) (ht : (pc : Int) + off = (tgt : Int)) (hx : -2147483648 ≤ x ∧ x < 2147483648) (kt : x = 0 → Ev γ X d mc ms tgt ls st K V Q) (kf : ¬ (x = 0) → Ev γ X d mc ms (pc + 3) ls st K V Q) : Ev γ X d mc ms pc ls (vI x :: st) K V Q := by
  intro p l e s m args below meth c H locs als cells slots TC TS hc hh hl hf h1 h2
  have h0 : -2147483648 ≤ (0 : Int) ∧ (0 : Int) < 2147483648 := by decide
  refine lv_if_eq hc.1 hc.2.1 hd ht (fun q => kt ((i_eq hx h0).mp q) p l e s m args below meth c H locs als cells slots TC TS hc hh hl hf h1 h2) (fun q => kf (fun z => q ((i_eq hx h0).mpr z)) p l e s m args below meth c H locs als cells slots TC TS hc hh hl hf h1 h2)
theorem ev_icmp_ne {x y off : Int} {tgt : Nat} (hd : decode X.2.1 pc = .ok (.if_icmp .ne off, 3)) (ht : (pc : Int) + off = (tgt : Int)) (hx : -2147483648 ≤ x ∧ x < 2147483648) (hy : -2147483648 ≤ y ∧ y < 2147483648) (kt : x ≠ y → Ev γ X d mc ms tgt ls st K V Q) (kf : x = y → Ev γ X d mc ms (pc + 3) ls st K V Q) : Ev γ X d mc ms pc ls (vI y :: vI x :: st) K V Q := by
  intro p l e s m args below meth c H locs als cells slots TC TS hc hh hl hf h1 h2
  refine lv_icmp_ne hc.1 hc.2.1 hd ht (fun q => kt ((not_congr (i_eq hx hy)).mp q) p l e s m args below meth c H locs als cells slots TC TS hc hh hl hf h1 h2) (fun q => kf ((i_eq hx hy).mp q) p l e s m args below meth c H locs als cells slots TC TS hc hh hl hf h1 h2)
theorem ev_if_ne {x off : Int} {tgt : Nat} (hd : decode X.2.1 pc = .ok (.ifCond .ne off, 3)) (ht : (pc : Int) + off = (tgt : Int)) (hx : -2147483648 ≤ x ∧ x < 2147483648) (kt : x ≠ 0 → Ev γ X d mc ms tgt ls st K V Q) (kf : x = 0 → Ev γ X d mc ms (pc + 3) ls st K V Q) : Ev γ X d mc ms pc ls (vI x :: st) K V Q := by
  intro p l e s m args below meth c H locs als cells slots TC TS hc hh hl hf h1 h2
  have h0 : -2147483648 ≤ (0 : Int) ∧ (0 : Int) < 2147483648 := by decide
  refine lv_if_ne hc.1 hc.2.1 hd ht (fun q => kt ((not_congr (i_eq hx h0)).mp q) p l e s m args below meth c H locs als cells slots TC TS hc hh hl hf h1 h2) (fun q => kf ((i_eq hx h0).mp q) p l e s m args below meth c H locs als cells slots TC TS hc hh hl hf h1 h2)
theorem ev_icmp_lt {x y off : Int} {tgt : Nat} (hd : decode X.2.1 pc = .ok (.if_icmp .lt off, 3)) (ht : (pc : Int) + off = (tgt : Int)) (hx : -2147483648 ≤ x ∧ x < 2147483648) (hy : -2147483648 ≤ y ∧ y < 2147483648) (kt : x < y → Ev γ X d mc ms tgt ls st K V Q) (kf : ¬ (x < y) → Ev γ X d mc ms (pc + 3) ls st K V Q) : Ev γ X d mc ms pc ls (vI y :: vI x :: st) K V Q := by
  intro p l e s m args below meth c H locs als cells slots TC TS hc hh hl hf h1 h2
  refine lv_icmp_lt hc.1 hc.2.1 hd ht (fun q => kt ((i_lt hx hy).mp q) p l e s m args below meth c H locs als cells slots TC TS hc hh hl hf h1 h2) (fun q => kf (fun z => q ((i_lt hx hy).mpr z)) p l e s m args below meth c H locs als cells slots TC TS hc hh hl hf h1 h2)
theorem ev_if_lt {x off : Int} {tgt : Nat} (hd : decode X.2.1 pc = .ok (.ifCond .lt off, 3)) (ht : (pc : Int) + off = (tgt : Int)) (hx : -2147483648 ≤ x ∧ x < 2147483648) (kt : x < 0 → Ev γ X d mc ms tgt ls st K V Q) (kf : ¬ (x < 0) → Ev γ X d mc ms (pc + 3) ls st K V Q) : Ev γ X d mc ms pc ls (vI x :: st) K V Q := by
  intro p l e s m args below meth c H locs als cells slots TC TS hc hh hl hf h1 h2
  have h0 : -2147483648 ≤ (0 : Int) ∧ (0 : Int) < 2147483648 := by decide
  refine lv_if_lt hc.1 hc.2.1 hd ht (fun q => kt ((i_lt hx h0).mp q) p l e s m args below meth c H locs als cells slots TC TS hc hh hl hf h1 h2) (fun q => kf (fun z => q ((i_lt hx h0).mpr z)) p l e s m args below meth c H locs als cells slots TC TS hc hh hl hf h1 h2)
theorem ev_icmp_ge {x y off : Int} {tgt : Nat} (hd : decode X.2.1 pc = .ok (.if_icmp .ge off, 3)) (ht : (pc : Int) + off = (tgt : Int)) (hx : -2147483648 ≤ x ∧ x < 2147483648) (hy : -2147483648 ≤ y ∧ y < 2147483648) (kt : y ≤ x → Ev γ X d mc ms tgt ls st K V Q) (kf : ¬ (y ≤ x) → Ev γ X d mc ms (pc + 3) ls st K V Q) : Ev γ X d mc ms pc ls (vI y :: vI x :: st) K V Q := by
  intro p l e s m args below meth c H locs als cells slots TC TS hc hh hl hf h1 h2
  refine lv_icmp_ge hc.1 hc.2.1 hd ht (fun q => kt ((i_le hy hx).mp q) p l e s m args below meth c H locs als cells slots TC TS hc hh hl hf h1 h2) (fun q => kf (fun z => q ((i_le hy hx).mpr z)) p l e s m args below meth c H locs als cells slots TC TS hc hh hl hf h1 h2)
theorem ev_if_ge {x off : Int} {tgt : Nat} (hd : decode X.2.1 pc = .ok (.ifCond .ge off, 3)) (ht : (pc : Int) + off = (tgt : Int)) (hx : -2147483648 ≤ x ∧ x < 2147483648) (kt : 0 ≤ x → Ev γ X d mc ms tgt ls st K V Q) (kf : ¬ (0 ≤ x) → Ev γ X d mc ms (pc + 3) ls st K V Q) : Ev γ X d mc ms pc ls (vI x :: st) K V Q := by
  intro p l e s m args below meth c H locs als cells slots TC TS hc hh hl hf h1 h2
  have h0 : -2147483648 ≤ (0 : Int) ∧ (0 : Int) < 2147483648 := by decide
  refine lv_if_ge hc.1 hc.2.1 hd ht (fun q => kt ((i_le h0 hx).mp q) p l e s m args below meth c H locs als cells slots TC TS hc hh hl hf h1 h2) (fun q => kf (fun z => q ((i_le h0 hx).mpr z)) p l e s m args below meth c H locs als cells slots TC TS hc hh hl hf h1 h2)
theorem ev_icmp_gt {x y off : Int} {tgt : Nat} (hd : decode X.2.1 pc = .ok (.if_icmp .gt off, 3)) (ht : (pc : Int) + off = (tgt : Int)) (hx : -2147483648 ≤ x ∧ x < 2147483648) (hy : -2147483648 ≤ y ∧ y < 2147483648) (kt : y < x → Ev γ X d mc ms tgt ls st K V Q) (kf : ¬ (y < x) → Ev γ X d mc ms (pc + 3) ls st K V Q) : Ev γ X d mc ms pc ls (vI y :: vI x :: st) K V Q := by
  intro p l e s m args below meth c H locs als cells slots TC TS hc hh hl hf h1 h2
  refine lv_icmp_gt hc.1 hc.2.1 hd ht (fun q => kt ((i_lt hy hx).mp q) p l e s m args below meth c H locs als cells slots TC TS hc hh hl hf h1 h2) (fun q => kf (fun z => q ((i_lt hy hx).mpr z)) p l e s m args below meth c H locs als cells slots TC TS hc hh hl hf h1 h2)
theorem ev_if_gt {x off : Int} {tgt : Nat} (hd : decode X.2.1 pc = .ok (.ifCond .gt off, 3)) (ht : (pc : Int) + off = (tgt : Int)) (hx : -2147483648 ≤ x ∧ x < 2147483648) (kt : 0 < x → Ev γ X d mc ms tgt ls st K V Q) (kf : ¬ (0 < x) → Ev γ X d mc ms (pc + 3) ls st K V Q) : Ev γ X d mc ms pc ls (vI x :: st) K V Q := by
  intro p l e s m args below meth c H locs als cells slots TC TS hc hh hl hf h1 h2
  have h0 : -2147483648 ≤ (0 : Int) ∧ (0 : Int) < 2147483648 := by decide
  refine lv_if_gt hc.1 hc.2.1 hd ht (fun q => kt ((i_lt h0 hx).mp q) p l e s m args below meth c H locs als cells slots TC TS hc hh hl hf h1 h2) (fun q => kf (fun z => q ((i_lt h0 hx).mpr z)) p l e s m args below meth c H locs als cells slots TC TS hc hh hl hf h1 h2)
theorem ev_icmp_le {x y off : Int} {tgt : Nat} (hd : decode X.2.1 pc = .ok (.if_icmp .le off, 3)) (ht : (pc : Int) + off = (tgt : Int)) (hx : -2147483648 ≤ x ∧ x < 2147483648) (hy : -2147483648 ≤ y ∧ y < 2147483648) (kt : x ≤ y → Ev γ X d mc ms tgt ls st K V Q) (kf : ¬ (x ≤ y) → Ev γ X d mc ms (pc + 3) ls st K V Q) : Ev γ X d mc ms pc ls (vI y :: vI x :: st) K V Q := by
  intro p l e s m args below meth c H locs als cells slots TC TS hc hh hl hf h1 h2
  refine lv_icmp_le hc.1 hc.2.1 hd ht (fun q => kt ((i_le hx hy).mp q) p l e s m args below meth c H locs als cells slots TC TS hc hh hl hf h1 h2) (fun q => kf (fun z => q ((i_le hx hy).mpr z)) p l e s m args below meth c H locs als cells slots TC TS hc hh hl hf h1 h2)
theorem ev_if_le {x off : Int} {tgt : Nat} (hd : decode X.2.1 pc = .ok (.ifCond .le off, 3)) (ht : (pc : Int) + off = (tgt : Int)) (hx : -2147483648 ≤ x ∧ x < 2147483648) (kt : x ≤ 0 → Ev γ X d mc ms tgt ls st K V Q) (kf : ¬ (x ≤ 0) → Ev γ X d mc ms (pc + 3) ls st K V Q) : Ev γ X d mc ms pc ls (vI x :: st) K V Q := by
  intro p l e s m args below meth c H locs als cells slots TC TS hc hh hl hf h1 h2
  have h0 : -2147483648 ≤ (0 : Int) ∧ (0 : Int) < 2147483648 := by decide
  refine lv_if_le hc.1 hc.2.1 hd ht (fun q => kt ((i_le hx h0).mp q) p l e s m args below meth c H locs als cells slots TC TS hc hh hl hf h1 h2) (fun q => kf (fun z => q ((i_le hx h0).mpr z)) p l e s m args below meth c H locs als cells slots TC TS hc hh hl hf h1 h2)
theorem ev_goto {off : Int} {tgt : Nat} (hd : decode X.2.1 pc = .ok (.goto off, 3)) (ht : (pc : Int) + off = (tgt : Int)) (k : Ev γ X d mc ms tgt ls st K V Q) : Ev γ X d mc ms pc ls st K V Q := by
  intro p l e s m args below meth c H locs als cells slots TC TS hc hh hl hf h1 h2
  exact lv_goto hc.1 hc.2.1 hd ht (k p l e s m args below meth c H locs als cells slots TC TS hc hh hl hf h1 h2)
theorem ev_ifnonnull {a : Nat} {off : Int} {tgt : Nat} (hd : decode X.2.1 pc = .ok (.ifnonnull off, 3)) (ht : (pc : Int) + off = (tgt : Int)) (kt : a ≠ 0 → Ev γ X d mc ms tgt ls st K V Q) (kf : a = 0 → Ev γ X d mc ms (pc + 3) ls st K V Q) : Ev γ X d mc ms pc ls (vR a :: st) K V Q := by
  intro p l e s m args below meth c H locs als cells slots TC TS hc hh hl hf h1 h2
  show W _ _ _ _ _ _ _ _ _ _ _ _ _ _ _ (F0 m pc als (cV γ (vR a) :: st.map (cV γ)))
  by_cases ha : a = 0
  · have kg := kf ha p l e s m args below meth c H locs als cells slots TC TS hc hh hl hf h1 h2
    subst ha
    rw [cV_null]
    exact lv_ifnonnullN hc.1 hc.2.1 hd kg
  · rw [cV_ref ha]
    exact lv_ifnonnull hc.1 hc.2.1 hd ht (kt ha p l e s m args below meth c H locs als cells slots TC TS hc hh hl hf h1 h2)
theorem ev_tableIn {dflt lo hi x off : Int} {offs : Array Int} {len tgt : Nat} (hd : decode X.2.1 pc = .ok (.tableswitch dflt lo hi offs, len)) (hx : -2147483648 ≤ x ∧ x < 2147483648) (g1 : lo ≤ x) (g2 : x ≤ hi) (ho : offs[(x - lo).toNat]? = some off) (ht : (pc : Int) + off = (tgt : Int)) (k : Ev γ X d mc ms tgt ls st K V Q) : Ev γ X d mc ms pc ls (vI x :: st) K V Q := by
  intro p l e s m args below meth c H locs als cells slots TC TS hc hh hl hf h1 h2
  have ee : (Int32.ofInt x).toInt = x := Int32.toInt_ofInt_of_le (by omega) (by omega)
  exact lv_tableIn hc.1 hc.2.1 hd (by rw [ee]; omega) (by rw [ee]; omega) (by rw [ee]; exact ho) ht (k p l e s m args below meth c H locs als cells slots TC TS hc hh hl hf h1 h2)
theorem ev_tableOut {dflt lo hi x : Int} {offs : Array Int} {len tgt : Nat} (hd : decode X.2.1 pc = .ok (.tableswitch dflt lo hi offs, len)) (hx : -2147483648 ≤ x ∧ x < 2147483648) (g : x < lo ∨ hi < x) (ht : (pc : Int) + dflt = (tgt : Int)) (k : Ev γ X d mc ms tgt ls st K V Q) : Ev γ X d mc ms pc ls (vI x :: st) K V Q := by
  intro p l e s m args below meth c H locs als cells slots TC TS hc hh hl hf h1 h2
  have ee : (Int32.ofInt x).toInt = x := Int32.toInt_ofInt_of_le (by omega) (by omega)
  exact lv_tableOut hc.1 hc.2.1 hd (by rw [ee]; exact g) ht (k p l e s m args below meth c H locs als cells slots TC TS hc hh hl hf h1 h2)
theorem ev_lookup {dflt x off : Int} {ps : Array (Int × Int)} {len tgt : Nat} (hd : decode X.2.1 pc = .ok (.lookupswitch dflt ps, len)) (hx : -2147483648 ≤ x ∧ x < 2147483648) (hp : (ps.toList.zip (ps.toList.drop 1)).all (fun (a, next) => a.1 < next.1) = true) (ho : Op.lookupswitch.offset ps.toList dflt x = off) (ht : (pc : Int) + off = (tgt : Int)) (k : Ev γ X d mc ms tgt ls st K V Q) : Ev γ X d mc ms pc ls (vI x :: st) K V Q := by
  intro p l e s m args below meth c H locs als cells slots TC TS hc hh hl hf h1 h2
  have ee : (Int32.ofInt x).toInt = x := Int32.toInt_ofInt_of_le (by omega) (by omega)
  exact lv_lookup hc.1 hc.2.1 hd hp (by rw [ee]; exact ho) ht (k p l e s m args below meth c H locs als cells slots TC TS hc hh hl hf h1 h2)
theorem ev_iret {n : Int} (hd : decode X.2.1 pc = .ok (.ireturn, 1)) (hr : X.2.2.2 = some .int) (hq : Q (some (vI n)) K V) : Ev γ X d mc ms pc ls [vI n] K V Q := by
  intro p l e s m args below meth c H locs als cells slots TC TS hc hh hl hf h1 h2
  have hlocks := hc.2.2.2.2.2.2.1
  refine W.widen (k := TC) (n := TS) (by omega) (by omega) ?_
  exact W.iret hc.1 hc.2.1 (hc.2.2.2.2.2.1.trans hr) (fun t ht hW => ⟨some (vI n), K, V, rfl, hq, by rw [ht]; exact hh.moved hW.alike⟩) hf hd
theorem ev_zret {n : Int} {ty : FieldType} (hd : decode X.2.1 pc = .ok (.ireturn, 1)) (hr : X.2.2.2 = some ty) (hn : narrow ty (.int (Int32.ofInt n)) = .int (Int32.ofInt n)) (hq : Q (some (vI n)) K V) : Ev γ X d mc ms pc ls [vI n] K V Q := by
  intro p l e s m args below meth c H locs als cells slots TC TS hc hh hl hf h1 h2
  have hlocks := hc.2.2.2.2.2.2.1
  refine W.widen (k := TC) (n := TS) (by omega) (by omega) ?_
  exact W.zret hc.1 hc.2.1 (hc.2.2.2.2.2.1.trans hr) hn (fun t ht hW => ⟨some (vI n), K, V, rfl, hq, by rw [ht]; exact hh.moved hW.alike⟩) hf hd
theorem z_narrow {n : Int} (h : n = 0 ∨ n = 1) : narrow .boolean (.int (Int32.ofInt n)) = .int (Int32.ofInt n) := by
  rcases h with rfl | rfl <;> rfl
theorem ev_bret {n : Int} (hd : decode X.2.1 pc = .ok (.ireturn, 1)) (hr : X.2.2.2 = some .boolean) (hn : n = 0 ∨ n = 1) (hq : Q (some (vI n)) K V) : Ev γ X d mc ms pc ls [vI n] K V Q := ev_zret hd hr (z_narrow hn) hq
theorem ev_lret {n : Int} (hd : decode X.2.1 pc = .ok (.lreturn, 1)) (hr : X.2.2.2 = some .long) (hq : Q (some (vL n)) K V) : Ev γ X d mc ms pc ls [vL n] K V Q := by
  intro p l e s m args below meth c H locs als cells slots TC TS hc hh hl hf h1 h2
  have hlocks := hc.2.2.2.2.2.2.1
  refine W.widen (k := TC) (n := TS) (by omega) (by omega) ?_
  exact W.lret hc.1 hc.2.1 (hc.2.2.2.2.2.1.trans hr) (fun t ht hW => ⟨some (vL n), K, V, rfl, hq, by rw [ht]; exact hh.moved hW.alike⟩) hf hd
theorem ev_vret (hd : decode X.2.1 pc = .ok (.return_, 1)) (hr : X.2.2.2 = none) (hq : Q none K V) : Ev γ X d mc ms pc ls [] K V Q := by
  intro p l e s m args below meth c H locs als cells slots TC TS hc hh hl hf h1 h2
  have hlocks := hc.2.2.2.2.2.2.1
  refine W.widen (k := TC) (n := TS) (by omega) (by omega) ?_
  exact W.vret hc.1 hc.2.1 (hc.2.2.2.2.2.1.trans hr) (fun t ht hW => ⟨none, K, V, rfl, hq, by rw [ht]; exact hh.moved hW.alike⟩) hf hd
theorem ev_aret {a : Nat} {rt : FieldType} (hd : decode X.2.1 pc = .ok (.areturn, 1)) (hr : X.2.2.2 = some rt) (hrt : (∃ n, rt = .object n) ∨ ∃ t, rt = .array t) (hq : Q (some (vR a)) K V) : Ev γ X d mc ms pc ls [vR a] K V Q := by
  intro p l e s m args below meth c H locs als cells slots TC TS hc hh hl hf h1 h2
  have hlocks := hc.2.2.2.2.2.2.1
  refine W.widen (k := TC) (n := TS) (by omega) (by omega) ?_
  exact W.aret hc.1 hc.2.1 (hc.2.2.2.2.2.1.trans hr) hrt (by by_cases h : a = 0; exact Or.inl (by subst h; exact cV_null); exact Or.inr ⟨_, cV_ref h⟩) (fun t ht hW => ⟨some (vR a), K, V, rfl, hq, by rw [ht]; exact hh.moved hW.alike⟩) hf hd
theorem ev_istore_nL {i : Fin 4} {n : Int} {ls' : List PV} (hd : decode X.2.1 pc = .ok (.istore_n i, 1)) (hi : (i : Nat) < X.2.2.1) (hls : st1 ls (i : Nat) (vI n) = ls') (k : Ev γ X d mc ms (pc + 1) ls' st K V Q) : Ev γ X d mc ms pc ls (vI n :: st) K V Q := ev_istore_n hd hi (hls ▸ k)
theorem ev_istoreL {i : Nat} {n : Int} {ls' : List PV} (hd : decode X.2.1 pc = .ok (.istore i, 2)) (hi : i < X.2.2.1) (hls : st1 ls i (vI n) = ls') (k : Ev γ X d mc ms (pc + 2) ls' st K V Q) : Ev γ X d mc ms pc ls (vI n :: st) K V Q := ev_istore hd hi (hls ▸ k)
theorem ev_lstore_nL {i : Fin 4} {n : Int} {ls' : List PV} (hd : decode X.2.1 pc = .ok (.lstore_n i, 1)) (hi : (i : Nat) + 1 < X.2.2.1) (hls : st2 ls (i : Nat) (vL n) = ls') (k : Ev γ X d mc ms (pc + 1) ls' st K V Q) : Ev γ X d mc ms pc ls (vL n :: st) K V Q := ev_lstore_n hd hi (hls ▸ k)
theorem ev_lstoreL {i : Nat} {n : Int} {ls' : List PV} (hd : decode X.2.1 pc = .ok (.lstore i, 2)) (hi : i + 1 < X.2.2.1) (hls : st2 ls i (vL n) = ls') (k : Ev γ X d mc ms (pc + 2) ls' st K V Q) : Ev γ X d mc ms pc ls (vL n :: st) K V Q := ev_lstore hd hi (hls ▸ k)
theorem ev_astore_nL {i : Fin 4} {a : Nat} {ls' : List PV} (hd : decode X.2.1 pc = .ok (.astore_n i, 1)) (hi : (i : Nat) < X.2.2.1) (hls : st1 ls (i : Nat) (vR a) = ls') (k : Ev γ X d mc ms (pc + 1) ls' st K V Q) : Ev γ X d mc ms pc ls (vR a :: st) K V Q := ev_astore_n hd hi (hls ▸ k)
theorem ev_astoreL {i : Nat} {a : Nat} {ls' : List PV} (hd : decode X.2.1 pc = .ok (.astore i, 2)) (hi : i < X.2.2.1) (hls : st1 ls i (vR a) = ls') (k : Ev γ X d mc ms (pc + 2) ls' st K V Q) : Ev γ X d mc ms pc ls (vR a :: st) K V Q := ev_astore hd hi (hls ▸ k)
theorem ev_iincL {i : Nat} {n x : Int} {ls' : List PV} (hd : decode X.2.1 pc = .ok (.iinc i n, 3)) (hv : ls[i]? = some (vI x)) (hi : i < X.2.2.1) (hls : st1 ls i (vI (x + n)) = ls') (k : Ev γ X d mc ms (pc + 3) ls' st K V Q) : Ev γ X d mc ms pc ls st K V Q := ev_iinc hd hv hi (hls ▸ k)
theorem ev_lsE {ls' : List PV} (hls : ls = ls') (k : Ev γ X d mc ms pc ls' st K V Q) : Ev γ X d mc ms pc ls st K V Q := hls ▸ k
end RL
