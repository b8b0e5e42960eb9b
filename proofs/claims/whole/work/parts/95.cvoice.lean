/-! ===== the class: voices ===== -/
theorem fls_X4_15 (kd : Int) : fldW "GreenPath$Law" 15 (lcl kd) 1 := by
  unfold lcl
  repeat' split
  · exact fl_X4_15_9
  · exact fl_X4_15_1
  · exact fl_X4_15_7
  · exact fl_X4_15_0
  · exact fl_X4_15_3
  · exact fl_X4_15_10
  · exact fl_X4_15_4
theorem fls_X4_18 (kd : Int) : fldW "GreenPath$Law" 18 (lcl kd) 2 := by
  unfold lcl
  repeat' split
  · exact fl_X4_18_9
  · exact fl_X4_18_1
  · exact fl_X4_18_7
  · exact fl_X4_18_0
  · exact fl_X4_18_3
  · exact fl_X4_18_10
  · exact fl_X4_18_4
theorem lcl_cl (o : Int) : ∃ r, vwCl[lcl o]? = some r := by
  unfold lcl
  repeat' split
  all_goals exact ⟨_, rfl⟩
/-- super.m() where the superclass has m from its own superclass -/
theorem cb_callSU {p : Program} {l : Launch} {e : Env} {R : Room} {s : State} {m : MethodId} {args : Array Value} {below : List Frame} {meth : Method} {c : Code} {T : State} {locs : List Loc} {cells slots : Nat} (X : Stand p l e R s m args below meth c T locs cells slots) (hexec : p.tables.exec = Jvm.exec) {own : String} {index : Nat} {x y : MethodName} {bytes : ByteArray} {maxL : Nat} {ret : Option FieldType}
    (hown : s.vm.findClass own = some m.cls) (hlink : (Cond.methodLink own index x).before args s = true) (hxn : x.name = y.name) (hxd : x.desc = y.desc) (hsame : (Cond.sameMethod x.cls y.cls y.name y.desc).before args s = true) (hsup : (Cond.superclass own x.cls).before args s = true) (hsup2 : (Cond.superclass x.cls y.cls).before args s = true)
    (hinst : (Cond.instanceMethod y).before args s = true) (hcode : (Cond.code y bytes maxL ret).before args s = true) (hno : y.name ≠ "<init>")
    {W : Nat} {Pre : Pt → Array Value → Prop} {Post : Pt → Array Value → Option Value → Pt → Prop} (hK : Back l R p e below s args y 3 W Pre Post)
    {b : Addr} {cellB : Cell} {kB : Class} (hcell : T.heap[b]? = some cellB) (hobj : cellB.vm.isStatics = false) (hkB : s.vm.classes[cellB.cls]? = some kB)
    {g : JFrame} (hg : g.method = m) (hsize : g.locals.size = c.maxLocals) {argsL rest : List Value} (hlen : ∀ sig, parseMethodDescriptor y.desc = some sig → argsL.length = sig.parameters.length)
    (hstack : g.stack = argsL.reverse ++ .ref b :: rest) (hW : 2 * g.monitorRoom + (rest.map fun v => v.category).sum ≤ W) (hdg : decode c.code g.pc = .ok (.invokespecial index, 3))
    (hpre : ∀ vm₁, s.WarmedH vm₁ → Pre ⟨T.setVm vm₁, locs, cells, slots⟩ (Value.ref b :: argsL).toArray) :
    ∃ (v : Option Value) (vm₁ : Vm) (B : Pt), s.WarmedH vm₁ ∧ Stand p l e R s m args below meth c B.U B.locs B.cells B.slots ∧ Post ⟨T.setVm vm₁, locs, cells, slots⟩ (Value.ref b :: argsL).toArray v B ∧
      ∀ target, Steps p.tables e below (B.U.setTop { g with pc := g.pc + 3, stack := v.toList ++ rest }) target → Steps p.tables e below (T.setTop g) target := by
  obtain ⟨mk, methM, hnamed, hmethM, hstM, habM⟩ := Cond.instanceMethod_spec hinst
  obtain ⟨methM', cM, hmethM', -, -, -, -, -, -, hsigM⟩ := Cond.code_spec hnamed hcode
  cases hmethM.symm.trans hmethM'
  obtain ⟨ps, dk, kp, hps, hdk, hkp, hsuper, -, -, hnid⟩ := Cond.superclass_spec hown hsup
  obtain ⟨pq, dq, kq, hpq, hdq, -, hsuper2, -, -, -⟩ := Cond.superclass_spec hps hsup2
  have hn : s.methodNamed? ⟨y.cls, x.name, x.desc⟩ = some mk := by rw [hxn, hxd]; exact hnamed
  have hpm : pq = mk.cls := Option.some.inj (hpq.symm.trans (findClass_of_methodNamed hnamed))
  have hsub : s.vm.isSubclass ps mk.cls = true := by
    have hsz : ps < s.vm.classes.size := (Array.getElem?_eq_some_iff.mp hdq).1
    obtain ⟨n, hn⟩ := Nat.exists_eq_succ_of_ne_zero (Nat.ne_of_gt (Nat.lt_of_le_of_lt (Nat.zero_le _) hsz))
    unfold Vm.isSubclass
    rw [hn]
    simp [Vm.isSubclassAux, hdq, hsuper2, hpm]
  obtain ⟨vm₁, X₁, hstep₁⟩ := X.invokespecialUp (owner := y.cls) hexec hown hlink (by rw [hxn, hxd]; exact hsame) hn hmethM hstM habM (by rw [hxn]; exact hno) hdk hnid hps hsuper hsub (a := b) (cell := cellB) hcell
    (fun z h => by rw [h] at hobj; cases hobj) hkB (g := g) hg (argsL := argsL) (rest := rest) (hlen _ hsigM) hstack hdg
  obtain ⟨v, B, X', hpost, hsteps⟩ := hK m meth c ⟨T.setVm vm₁, locs, cells, slots⟩ { g with stack := rest } (.invokespecial index) mk (Value.ref b :: argsL).toArray X₁ hg hsize hdg hW (X₁.named hnamed) (hpre vm₁ X₁.warmed)
  exact ⟨v, vm₁, B, X₁.warmed, X', hpost, fun target h => hstep₁ _ (by rw [doInvoke_state]; exact hsteps.trans h)⟩
theorem ev_superUR {γ : Gh} {X : MX} {d mc ms pc : Nat} {ls st : List PV} {K : Sk} {V : Mm} {Q : Option PV → Sk → Mm → Prop} {Y : MX} {index n d' mc' ms' mcr msr : Nat} {As : List PV} {v : PV} {K' : Sk} {V' : Mm} {ci a : Nat} {r : vw_C} {x : MethodName} (hd : decode X.2.1 pc = .ok (.invokespecial index, 3)) (hy : mOk Y n) (hnm : Y.1.name ≠ "<init>") (hcl : vwCl[ci]? = some r) (w1 : Cond.methodLink X.1.cls index x ∈ tb) (hxn : x.name = Y.1.name) (hxd : x.desc = Y.1.desc) (w2 : Cond.instanceMethod Y.1 ∈ tb) (w3 : Cond.sameMethod x.cls Y.1.cls Y.1.name Y.1.desc ∈ tb) (w4 : Cond.superclass X.1.cls x.cls ∈ tb) (w5 : Cond.superclass x.cls Y.1.cls ∈ tb) (hs : (K.1 a).1 = ci + 10) (hC : Call γ Y d' mc' ms' (vR a :: As) K V (Rt (some v) K' V')) {stk : List PV} (hst : stk = As.reverse ++ vR a :: st) (hd' : d' < d) (hn : As.length = n) (hW : (st.map pcat).sum ≤ 8) (hmc : mc' + mcr = mc) (hms : ms' + msr = ms)
    (kk : Ev γ X d mcr msr (pc + 3) ls (v :: st) K' V' Q) : Ev γ X d mc ms pc ls stk K V Q := by
  intro p l e s m args below meth c H locs als cells slots TC TS hc hh hl hf h1 h2
  subst hmc; subst hms; subst hst
  have hts := hc.2.2.2.2.1
  have ha := cV_ref (γ := γ) (hh.ne0 (a := a) (by omega))
  refine run_ev (Q' := Rt (some v) K' V') (a := (Value.ref (ad γ a) :: As.map (cV γ)).toArray) ?_ hc hl hf h1 h2 (by rintro _ _ _ ⟨rfl, rfl, rfl⟩; exact kk)
  obtain ⟨hrc, hrs, hfr, hlo, hws, hcw⟩ := callB_ok (TC := TC) (TS := TS) (mc' := mc') (ms' := ms') hy hts hd'
  have hini := hts _ hy.2.1
  have hK : Back l (rmr d TC TS) p e below s args Y.1 3 8 (PreOf (rmr d TC TS) mc' ms' (va_Pc ((vR a :: As).map (cV γ)) (fun U => Wl γ U ∧ Hp γ K V U U.heap))) (PostOf (Qr γ (Rt (some v) K' V')) mc' ms' (fun q => gB γ ≤ q)) := back_of (bytes := Y.2.1) (maxL := Y.2.2.1) (ret := Y.2.2.2) (hC l) (frameBlind _) hrc hrs hfr hlo hws hcw (fun a' U hW => word_at hW (Or.inl (by first | rfl | simp [Cond.onTables, Cond.keeps, Cond.steady])) hini)
  obtain ⟨cellB, hcB, hoB, hclB⟩ := hh.recv hc.2.2.2.2.2.2.2.2 hs hcl
  obtain ⟨kB, hkB, -⟩ := Vm.findClass_spec hclB
  intro T hT X1
  obtain ⟨w, vm₁, ⟨U', l2, c2, s2⟩, hW₁, X', ⟨g', mk, t, L, e1, e2, hq, g1, hL, g2, g3⟩, stp⟩ := cb_callSU X1 hc.1 (bytes := Y.2.1) (maxL := Y.2.2.1) (ret := Y.2.2.2) hc.2.2.2.1 (hts _ w1) hxn hxd (hts _ w3) (hts _ w4) (hts _ w5) (hts _ w2) (hts _ hy.1) hnm hK (b := ad γ a) (by rw [hT]; exact hcB) hoB hkB (g := F0 m pc als ((As.reverse ++ vR a :: st).map (cV γ))) rfl (hl.1.trans hc.2.2.1.symm) (argsL := As.map (cV γ)) (rest := st.map (cV γ)) (fun sig h => by rw [List.length_map]; exact hn.trans (sig_ok hy sig h)) (by simp [F0, List.map_append, List.map_reverse, ha]) (lv_room (Nat.le_trans (pcat_sum st) hW)) (by rw [hc.2.1]; exact hd)
    (fun vm₁ hW₁ => ⟨show cells + mc' ≤ TC by omega, show slots + ms' ≤ TS by omega, by
      refine ⟨by rw [List.map_cons, ha], hc.2.2.2.2.2.2.2.2.warm hW₁, ?_⟩
      have : (T.setVm vm₁).heap = H := hT
      rw [this]
      exact hh.moved hW₁.alike⟩)
  dsimp only [Pt.U, Pt.locs, Pt.cells, Pt.slots] at X' e1 e2 g1 g2 g3 stp
  subst g1; subst g2; subst g3
  exact ⟨w, (T.setVm vm₁).calling g' mk (Value.ref (ad γ a) :: As.map (cV γ)).toArray, t, U', L, hT, X', hL, e1, e2, hq, stp⟩
/-- the bodies that ran, with these behind them -/
def ctW (V : Mm) : List Int → Mm
  | [] => V
  | b :: l => ctW (rAdd V 143 144 b) l
theorem ctW_app : ∀ (l m : List Int) (V : Mm), ctW V (l ++ m) = ctW (ctW V l) m
  | [], _, _ => rfl
  | b :: l, m, V => ctW_app l m _
theorem ctW_o : ∀ (l : List Int) (V : Mm) (c : Nat), c ≠ 143 → c ≠ 144 → ctW V l c = V c
  | [], _, _, _, _ => rfl
  | b :: l, V, c, h1, h2 => by
    show ctW (rAdd V 143 144 b) l c = V c
    rw [ctW_o l _ c h1 h2]
    unfold rAdd
    rw [wr_off h1, wr_off h2]
theorem ctW_n : ∀ (l : List Int) (V : Mm), ctW V l 143 1 = V 143 1 + l.length
  | [], V => by show V 143 1 = V 143 1 + ((0 : Nat) : Int); omega
  | b :: l, V => by
    show ctW (rAdd V 143 144 b) l 143 1 = _
    rw [ctW_n l]
    unfold rAdd
    rw [wr_self]
    simp only [List.length_cons]
    omega
def PC (K : Sk) (V : Mm) (c : Nat) (o p m L : Int) : Prop := Lay K ∧ LawA K V c p o m ∧ (0 ≤ p ∧ p < 6) ∧ 0 ≤ V 143 1 ∧ V 143 1 + L ≤ 40
theorem PC.tr {K : Sk} {V : Mm} {c : Nat} {o p m L L' : Int} {l : List Int} (h : PC K V c o p m L) (hl : L' + l.length ≤ L) : PC K (ctW V l) c o p m L' := by
  obtain ⟨a, b, d, e, f⟩ := h
  refine ⟨a, b.mv (fun _ _ => rfl) (fun x z _ _ => ctW_o l V x ?_ ?_), d, ?_, ?_⟩
  · have ho : (112 ≤ x ∧ x ≤ 117) ∨ (137 ≤ x ∧ x ≤ 142) ∨ 178 ≤ x := z
    omega
  · have ho : (112 ≤ x ∧ x ≤ 117) ∨ (137 ≤ x ∧ x ≤ 142) ∨ 178 ≤ x := z
    omega
  · rw [ctW_n]; omega
  · rw [ctW_n]; omega
theorem PC.le {K : Sk} {V : Mm} {c : Nat} {o p m L L' : Int} (h : PC K V c o p m L) (hl : L' ≤ L) : PC K V c o p m L' := ⟨h.1, h.2.1, h.2.2.1, h.2.2.2.1, by have := h.2.2.2.2; omega⟩
theorem c_bod {γ : Gh} {K : Sk} {V : Mm} (hL : Lay K) {b : Int} (hz : 0 ≤ V 143 1 ∧ V 143 1 < 40) : Call γ M_X5_add 0 0 0 [vR 143, vI b] K V (Rt (some (vI 1)) K (ctW V [b])) := by
  have h := c_Row_add (γ := γ) (V := V) (row_143 hL) (show 0 ≤ V 143 1 ∧ V 143 1 ≤ (40 : Nat) by omega) (x := b)
  rw [if_pos (show V 143 1 < ((40 : Nat) : Int) by omega), if_pos (show V 143 1 < ((40 : Nat) : Int) by omega)] at h
  exact h
theorem c_vM0 {γ : Gh} {K : Sk} {V : Mm} {c : Nat} {o p m x : Int} (h : PC K V c o p m 1) : Call γ M_X4_voiceMeets 1 0 0 [vR c, vI x, vR 143] K V (Rt (some (vI (x + p))) K (ctW V ([10]))) := by
  refine call_of (by decide +kernel) (by intro v hv; simp only [List.mem_cons, List.not_mem_nil, or_false] at hv; rcases hv with rfl | rfl | rfl <;> exact fun q => by cases q) (Nat.le_of_ble_eq_true rfl) ?_
  refine ev_lsE (ls' := [_, _, _]) rfl ?_
  have hL := h.1
  have ht := h.2.2.2
  have h2 : PC K (ctW V [10]) c o p m 0 := h.tr (by decide)
  refine ev_aload_n (X := M_X4_voiceMeets) (pc := 0) dX4_voiceMeets_0 rfl ?_
  refine ev_bipush (X := M_X4_voiceMeets) (pc := 1) dX4_voiceMeets_1 (by decide) ?_
  refine ev_virtR (X := M_X4_voiceMeets) (Y := M_X5_add) (pc := 3) (ci := 5) dX4_voiceMeets_3 mk_X5_add rfl kw_841 kw_450 kw_451 (lO_143 hL) (c_bod h.1 (by omega)) rfl (by decide) rfl (Nat.le_of_ble_eq_true rfl) (Nat.zero_add _) (Nat.zero_add _) ?_
  refine ev_pop (X := M_X4_voiceMeets) (pc := 6) dX4_voiceMeets_6 (fun _ q => by cases q) ?_
  refine ev_iload_n (X := M_X4_voiceMeets) (pc := 7) dX4_voiceMeets_7 rfl ?_
  refine ev_aload_n (X := M_X4_voiceMeets) (pc := 8) dX4_voiceMeets_8 rfl ?_
  refine ev_getIe (X := M_X4_voiceMeets) (pc := 9) (ki := 1) dX4_voiceMeets_9 (fls_X4_15 _) h2.2.1.1 (Or.inl (lcl_int _ 1 (by decide))) rfl (h2.2.1.2.2.1) ?_
  refine ev_iadd (X := M_X4_voiceMeets) (pc := 12) dX4_voiceMeets_12 ?_
  refine ev_iret (X := M_X4_voiceMeets) (pc := 13) dX4_voiceMeets_13 rfl ?_
  exact ⟨rfl, rfl, rfl⟩
theorem c_vM2 {γ : Gh} {K : Sk} {V : Mm} {c : Nat} {o p m x : Int} (h : PC K V c o p m 2) : Call γ M_X1_voiceMeets 2 0 0 [vR c, vI x, vR 143] K V (Rt (some (vI ((x + p) * 3))) K (ctW V ([30, 10]))) := by
  refine call_of (by decide +kernel) (by intro v hv; simp only [List.mem_cons, List.not_mem_nil, or_false] at hv; rcases hv with rfl | rfl | rfl <;> exact fun q => by cases q) (Nat.le_of_ble_eq_true rfl) ?_
  refine ev_lsE (ls' := [_, _, _]) rfl ?_
  have hL := h.1
  have ht := h.2.2.2
  have h2 : PC K (ctW V [30]) c o p m 1 := h.tr (by decide)
  obtain ⟨r, hr⟩ := lcl_cl o
  refine ev_aload_n (X := M_X1_voiceMeets) (pc := 0) dX1_voiceMeets_0 rfl ?_
  refine ev_bipush (X := M_X1_voiceMeets) (pc := 1) dX1_voiceMeets_1 (by decide) ?_
  refine ev_virtR (X := M_X1_voiceMeets) (Y := M_X5_add) (pc := 3) (ci := 5) dX1_voiceMeets_3 mk_X5_add rfl kw_834 kw_450 kw_451 (lO_143 hL) (c_bod h.1 (by omega)) rfl (by decide) rfl (Nat.le_of_ble_eq_true rfl) (Nat.zero_add _) (Nat.zero_add _) ?_
  refine ev_pop (X := M_X1_voiceMeets) (pc := 6) dX1_voiceMeets_6 (fun _ q => by cases q) ?_
  refine ev_aload_n (X := M_X1_voiceMeets) (pc := 7) dX1_voiceMeets_7 rfl ?_
  refine ev_iload_n (X := M_X1_voiceMeets) (pc := 8) dX1_voiceMeets_8 rfl ?_
  refine ev_aload_n (X := M_X1_voiceMeets) (pc := 9) dX1_voiceMeets_9 rfl ?_
  refine ev_superR (X := M_X1_voiceMeets) (pc := 10) (Y := M_X4_voiceMeets) (ci := lcl o) dX1_voiceMeets_10 mk_X4_voiceMeets (by decide) hr kw_835 kw_827 kw_829 kw_355 h2.2.1.1 (c_vM0 h2) rfl (by decide) rfl (Nat.le_of_ble_eq_true rfl) (Nat.zero_add _) (Nat.zero_add _) ?_
  refine ev_iconst (X := M_X1_voiceMeets) (pc := 13) dX1_voiceMeets_13 ?_
  refine ev_imul (X := M_X1_voiceMeets) (pc := 14) dX1_voiceMeets_14 ?_
  refine ev_iret (X := M_X1_voiceMeets) (pc := 15) dX1_voiceMeets_15 rfl ?_
  exact ⟨rfl, rfl, rfl⟩
theorem ev_vMeets {γ : Gh} {X : MX} {d mc ms pc : Nat} {ls st : List PV} {K : Sk} {V : Mm} {Q : Option PV → Sk → Mm → Prop} {index c : Nat} {o p m x : Int} (hd : decode X.2.1 pc = .ok (.invokevirtual index, 3)) (w1 : Cond.methodLink X.1.cls index yX4_voiceMeets ∈ tb) (h : PC K V c o p m 2) (ho : 0 ≤ o ∧ o ≤ 6) (hd' : 2 < d) (hW : (st.map pcat).sum ≤ 8) (kk : Ev γ X d mc ms (pc + 3) ls (vI (metF o p x) :: st) K (ctW V (metL o)) Q) : Ev γ X d mc ms pc ls (vR 143 :: vI x :: vR c :: st) K V Q := by
  have hO := h.2.1.1
  rcases (show o = 0 ∨ o = 1 ∨ o = 2 ∨ o = 3 ∨ o = 4 ∨ o = 5 ∨ o = 6 by omega) with z | z | z | z | z | z | z <;> subst z
  · exact ev_virtUR (Y := M_X4_voiceMeets) (ci := 4) hd mk_X4_voiceMeets rfl w1 kw_827 kw_828 kw_829 kw_827 kw_840 ⟨by decide, by decide⟩ rfl hO (c_vM0 (h.le (by decide))) rfl (Nat.lt_of_le_of_lt (by decide) hd') rfl hW (Nat.zero_add _) (Nat.zero_add _) kk
  · exact ev_virtUR (Y := M_X4_voiceMeets) (ci := 9) hd mk_X4_voiceMeets rfl w1 kw_827 kw_838 kw_829 kw_827 kw_840 ⟨by decide, by decide⟩ rfl hO (c_vM0 (h.le (by decide))) rfl (Nat.lt_of_le_of_lt (by decide) hd') rfl hW (Nat.zero_add _) (Nat.zero_add _) kk
  · exact ev_virtUR (Y := M_X1_voiceMeets) (ci := 1) hd mk_X1_voiceMeets rfl w1 kw_832 kw_831 kw_829 kw_827 kw_840 ⟨by decide, by decide⟩ rfl hO (c_vM2 h) rfl (Nat.lt_of_le_of_lt (by decide) hd') rfl hW (Nat.zero_add _) (Nat.zero_add _) kk
  · exact ev_virtUR (Y := M_X4_voiceMeets) (ci := 7) hd mk_X4_voiceMeets rfl w1 kw_827 kw_837 kw_829 kw_827 kw_840 ⟨by decide, by decide⟩ rfl hO (c_vM0 (h.le (by decide))) rfl (Nat.lt_of_le_of_lt (by decide) hd') rfl hW (Nat.zero_add _) (Nat.zero_add _) kk
  · exact ev_virtUR (Y := M_X4_voiceMeets) (ci := 0) hd mk_X4_voiceMeets rfl w1 kw_827 kw_830 kw_829 kw_827 kw_840 ⟨by decide, by decide⟩ rfl hO (c_vM0 (h.le (by decide))) rfl (Nat.lt_of_le_of_lt (by decide) hd') rfl hW (Nat.zero_add _) (Nat.zero_add _) kk
  · exact ev_virtUR (Y := M_X1_voiceMeets) (ci := 3) hd mk_X1_voiceMeets rfl w1 kw_832 kw_836 kw_829 kw_827 kw_840 ⟨by decide, by decide⟩ rfl hO (c_vM2 h) rfl (Nat.lt_of_le_of_lt (by decide) hd') rfl hW (Nat.zero_add _) (Nat.zero_add _) kk
  · exact ev_virtUR (Y := M_X4_voiceMeets) (ci := 10) hd mk_X4_voiceMeets rfl w1 kw_827 kw_839 kw_829 kw_827 kw_840 ⟨by decide, by decide⟩ rfl hO (c_vM0 (h.le (by decide))) rfl (Nat.lt_of_le_of_lt (by decide) hd') rfl hW (Nat.zero_add _) (Nat.zero_add _) kk
theorem c_vS0 {γ : Gh} {K : Sk} {V : Mm} {c : Nat} {o p m x : Int} (h : PC K V c o p m 1) : Call γ M_X4_voiceStays 1 0 0 [vR c, vI x, vR 143] K V (Rt (some (vI (x - m))) K (ctW V ([12]))) := by
  refine call_of (by decide +kernel) (by intro v hv; simp only [List.mem_cons, List.not_mem_nil, or_false] at hv; rcases hv with rfl | rfl | rfl <;> exact fun q => by cases q) (Nat.le_of_ble_eq_true rfl) ?_
  refine ev_lsE (ls' := [_, _, _]) rfl ?_
  have hL := h.1
  have ht := h.2.2.2
  have h2 : PC K (ctW V [12]) c o p m 0 := h.tr (by decide)
  refine ev_aload_n (X := M_X4_voiceStays) (pc := 0) dX4_voiceStays_0 rfl ?_
  refine ev_bipush (X := M_X4_voiceStays) (pc := 1) dX4_voiceStays_1 (by decide) ?_
  refine ev_virtR (X := M_X4_voiceStays) (Y := M_X5_add) (pc := 3) (ci := 5) dX4_voiceStays_3 mk_X5_add rfl kw_841 kw_450 kw_451 (lO_143 hL) (c_bod h.1 (by omega)) rfl (by decide) rfl (Nat.le_of_ble_eq_true rfl) (Nat.zero_add _) (Nat.zero_add _) ?_
  refine ev_pop (X := M_X4_voiceStays) (pc := 6) dX4_voiceStays_6 (fun _ q => by cases q) ?_
  refine ev_iload_n (X := M_X4_voiceStays) (pc := 7) dX4_voiceStays_7 rfl ?_
  refine ev_aload_n (X := M_X4_voiceStays) (pc := 8) dX4_voiceStays_8 rfl ?_
  refine ev_getIe (X := M_X4_voiceStays) (pc := 9) (ki := 2) dX4_voiceStays_9 (fls_X4_18 _) h2.2.1.1 (Or.inl (lcl_int _ 2 (by decide))) rfl (h2.2.1.2.2.2.1) ?_
  refine ev_isub (X := M_X4_voiceStays) (pc := 12) dX4_voiceStays_12 ?_
  refine ev_iret (X := M_X4_voiceStays) (pc := 13) dX4_voiceStays_13 rfl ?_
  exact ⟨rfl, rfl, rfl⟩
theorem c_vS3 {γ : Gh} {K : Sk} {V : Mm} {c : Nat} {o p m x : Int} (h : PC K V c o p m 2) : Call γ M_X7_voiceStays 2 0 0 [vR c, vI x, vR 143] K V (Rt (some (vI (-(x - m)))) K (ctW V ([40, 12]))) := by
  refine call_of (by decide +kernel) (by intro v hv; simp only [List.mem_cons, List.not_mem_nil, or_false] at hv; rcases hv with rfl | rfl | rfl <;> exact fun q => by cases q) (Nat.le_of_ble_eq_true rfl) ?_
  refine ev_lsE (ls' := [_, _, _]) rfl ?_
  have hL := h.1
  have ht := h.2.2.2
  have h2 : PC K (ctW V [40]) c o p m 1 := h.tr (by decide)
  obtain ⟨r, hr⟩ := lcl_cl o
  refine ev_aload_n (X := M_X7_voiceStays) (pc := 0) dX7_voiceStays_0 rfl ?_
  refine ev_bipush (X := M_X7_voiceStays) (pc := 1) dX7_voiceStays_1 (by decide) ?_
  refine ev_virtR (X := M_X7_voiceStays) (Y := M_X5_add) (pc := 3) (ci := 5) dX7_voiceStays_3 mk_X5_add rfl kw_872 kw_450 kw_451 (lO_143 hL) (c_bod h.1 (by omega)) rfl (by decide) rfl (Nat.le_of_ble_eq_true rfl) (Nat.zero_add _) (Nat.zero_add _) ?_
  refine ev_pop (X := M_X7_voiceStays) (pc := 6) dX7_voiceStays_6 (fun _ q => by cases q) ?_
  refine ev_aload_n (X := M_X7_voiceStays) (pc := 7) dX7_voiceStays_7 rfl ?_
  refine ev_iload_n (X := M_X7_voiceStays) (pc := 8) dX7_voiceStays_8 rfl ?_
  refine ev_aload_n (X := M_X7_voiceStays) (pc := 9) dX7_voiceStays_9 rfl ?_
  refine ev_superR (X := M_X7_voiceStays) (pc := 10) (Y := M_X4_voiceStays) (ci := lcl o) dX7_voiceStays_10 mk_X4_voiceStays (by decide) hr kw_873 kw_860 kw_1451 kw_262 h2.2.1.1 (c_vS0 h2) rfl (by decide) rfl (Nat.le_of_ble_eq_true rfl) (Nat.zero_add _) (Nat.zero_add _) ?_
  refine ev_ineg (X := M_X7_voiceStays) (pc := 13) dX7_voiceStays_13 ?_
  refine ev_iret (X := M_X7_voiceStays) (pc := 14) dX7_voiceStays_14 rfl ?_
  exact ⟨rfl, rfl, rfl⟩
theorem c_vS6 {γ : Gh} {K : Sk} {V : Mm} {c : Nat} {o p m x : Int} (h : PC K V c o p m 3) (ho : o = 6) : Call γ M_X10_voiceStays 3 0 0 [vR c, vI x, vR 143] K V (Rt (some (vI (op_ixor (-(x - m)) p))) K (ctW V ([70, 40, 12]))) := by
  refine call_of (by decide +kernel) (by intro v hv; simp only [List.mem_cons, List.not_mem_nil, or_false] at hv; rcases hv with rfl | rfl | rfl <;> exact fun q => by cases q) (Nat.le_of_ble_eq_true rfl) ?_
  refine ev_lsE (ls' := [_, _, _]) rfl ?_
  have hL := h.1
  have ht := h.2.2.2
  have h2 : PC K (ctW V [70]) c o p m 2 := h.tr (by decide)
  have h3 : PC K (ctW (ctW V [70]) [40, 12]) c o p m 0 := h2.tr (by decide)
  obtain ⟨r, hr⟩ := lcl_cl o
  have hO : (K.1 c).1 = 10 + 10 := by rw [h.2.1.1, ho]; rfl
  refine ev_aload_n (X := M_X10_voiceStays) (pc := 0) dX10_voiceStays_0 rfl ?_
  refine ev_bipush (X := M_X10_voiceStays) (pc := 1) dX10_voiceStays_1 (by decide) ?_
  refine ev_virtR (X := M_X10_voiceStays) (Y := M_X5_add) (pc := 3) (ci := 5) dX10_voiceStays_3 mk_X5_add rfl kw_876 kw_450 kw_451 (lO_143 hL) (c_bod h.1 (by omega)) rfl (by decide) rfl (Nat.le_of_ble_eq_true rfl) (Nat.zero_add _) (Nat.zero_add _) ?_
  refine ev_pop (X := M_X10_voiceStays) (pc := 6) dX10_voiceStays_6 (fun _ q => by cases q) ?_
  refine ev_aload_n (X := M_X10_voiceStays) (pc := 7) dX10_voiceStays_7 rfl ?_
  refine ev_iload_n (X := M_X10_voiceStays) (pc := 8) dX10_voiceStays_8 rfl ?_
  refine ev_aload_n (X := M_X10_voiceStays) (pc := 9) dX10_voiceStays_9 rfl ?_
  refine ev_superR (X := M_X10_voiceStays) (pc := 10) (Y := M_X7_voiceStays) (ci := lcl o) dX10_voiceStays_10 mk_X7_voiceStays (by decide) hr kw_877 kw_870 kw_1459 kw_280 h2.2.1.1 (c_vS3 h2) rfl (by decide) rfl (Nat.le_of_ble_eq_true rfl) (Nat.zero_add _) (Nat.zero_add _) ?_
  refine ev_aload_n (X := M_X10_voiceStays) (pc := 13) dX10_voiceStays_13 rfl ?_
  refine ev_getIe (X := M_X10_voiceStays) (pc := 14) (ki := 1) dX10_voiceStays_14 fl_X10_41_10 hO (by decide) rfl (h3.2.1.2.2.1) ?_
  refine ev_ixor (X := M_X10_voiceStays) (pc := 17) dX10_voiceStays_17 ?_
  refine ev_iret (X := M_X10_voiceStays) (pc := 18) dX10_voiceStays_18 rfl ?_
  exact ⟨rfl, rfl, rfl⟩
theorem ev_vStays {γ : Gh} {X : MX} {d mc ms pc : Nat} {ls st : List PV} {K : Sk} {V : Mm} {Q : Option PV → Sk → Mm → Prop} {index c : Nat} {o p m x : Int} (hd : decode X.2.1 pc = .ok (.invokevirtual index, 3)) (w1 : Cond.methodLink X.1.cls index yX4_voiceStays ∈ tb) (h : PC K V c o p m 3) (ho : 0 ≤ o ∧ o ≤ 6) (hd' : 3 < d) (hW : (st.map pcat).sum ≤ 8) (kk : Ev γ X d mc ms (pc + 3) ls (vI (stF' o p m x) :: st) K (ctW V (stL' o)) Q) : Ev γ X d mc ms pc ls (vR 143 :: vI x :: vR c :: st) K V Q := by
  have hO := h.2.1.1
  rcases (show o = 0 ∨ o = 1 ∨ o = 2 ∨ o = 3 ∨ o = 4 ∨ o = 5 ∨ o = 6 by omega) with z | z | z | z | z | z | z <;> subst z
  · exact ev_virtUR (Y := M_X4_voiceStays) (ci := 4) hd mk_X4_voiceStays rfl w1 kw_860 kw_1455 kw_1451 kw_860 kw_861 ⟨by decide, by decide⟩ rfl hO (c_vS0 (h.le (by decide))) rfl (Nat.lt_of_le_of_lt (by decide) hd') rfl hW (Nat.zero_add _) (Nat.zero_add _) kk
  · exact ev_virtUR (Y := M_X4_voiceStays) (ci := 9) hd mk_X4_voiceStays rfl w1 kw_860 kw_1457 kw_1451 kw_860 kw_861 ⟨by decide, by decide⟩ rfl hO (c_vS0 (h.le (by decide))) rfl (Nat.lt_of_le_of_lt (by decide) hd') rfl hW (Nat.zero_add _) (Nat.zero_add _) kk
  · exact ev_virtUR (Y := M_X4_voiceStays) (ci := 1) hd mk_X4_voiceStays rfl w1 kw_860 kw_1453 kw_1451 kw_860 kw_861 ⟨by decide, by decide⟩ rfl hO (c_vS0 (h.le (by decide))) rfl (Nat.lt_of_le_of_lt (by decide) hd') rfl hW (Nat.zero_add _) (Nat.zero_add _) kk
  · exact ev_virtUR (Y := M_X7_voiceStays) (ci := 7) hd mk_X7_voiceStays rfl w1 kw_870 kw_1456 kw_1451 kw_860 kw_861 ⟨by decide, by decide⟩ rfl hO (c_vS3 (h.le (by decide))) rfl (Nat.lt_of_le_of_lt (by decide) hd') rfl hW (Nat.zero_add _) (Nat.zero_add _) kk
  · exact ev_virtUR (Y := M_X4_voiceStays) (ci := 0) hd mk_X4_voiceStays rfl w1 kw_860 kw_1452 kw_1451 kw_860 kw_861 ⟨by decide, by decide⟩ rfl hO (c_vS0 (h.le (by decide))) rfl (Nat.lt_of_le_of_lt (by decide) hd') rfl hW (Nat.zero_add _) (Nat.zero_add _) kk
  · exact ev_virtUR (Y := M_X4_voiceStays) (ci := 3) hd mk_X4_voiceStays rfl w1 kw_860 kw_1454 kw_1451 kw_860 kw_861 ⟨by decide, by decide⟩ rfl hO (c_vS0 (h.le (by decide))) rfl (Nat.lt_of_le_of_lt (by decide) hd') rfl hW (Nat.zero_add _) (Nat.zero_add _) kk
  · exact ev_virtUR (Y := M_X10_voiceStays) (ci := 10) hd mk_X10_voiceStays rfl w1 kw_874 kw_1458 kw_1451 kw_860 kw_861 ⟨by decide, by decide⟩ rfl hO (c_vS6 h rfl) rfl (Nat.lt_of_le_of_lt (by decide) hd') rfl hW (Nat.zero_add _) (Nat.zero_add _) kk
theorem c_vT0 {γ : Gh} {K : Sk} {V : Mm} {c : Nat} {o p m x : Int} (h : PC K V c o p m 3) (ho : 0 ≤ o ∧ o ≤ 6) : Call γ M_X4_voiceTurns 3 0 0 [vR c, vI x, vR 143] K V (Rt (some (vI (metF o p x * 2))) K (ctW V ([11] ++ metL o))) := by
  refine call_of (by decide +kernel) (by intro v hv; simp only [List.mem_cons, List.not_mem_nil, or_false] at hv; rcases hv with rfl | rfl | rfl <;> exact fun q => by cases q) (Nat.le_of_ble_eq_true rfl) ?_
  refine ev_lsE (ls' := [_, _, _]) rfl ?_
  have hL := h.1
  have ht := h.2.2.2
  have h2 : PC K (ctW V [11]) c o p m 2 := h.tr (by decide)
  refine ev_aload_n (X := M_X4_voiceTurns) (pc := 0) dX4_voiceTurns_0 rfl ?_
  refine ev_bipush (X := M_X4_voiceTurns) (pc := 1) dX4_voiceTurns_1 (by decide) ?_
  refine ev_virtR (X := M_X4_voiceTurns) (Y := M_X5_add) (pc := 3) (ci := 5) dX4_voiceTurns_3 mk_X5_add rfl kw_841 kw_450 kw_451 (lO_143 hL) (c_bod h.1 (by omega)) rfl (by decide) rfl (Nat.le_of_ble_eq_true rfl) (Nat.zero_add _) (Nat.zero_add _) ?_
  refine ev_pop (X := M_X4_voiceTurns) (pc := 6) dX4_voiceTurns_6 (fun _ q => by cases q) ?_
  refine ev_aload_n (X := M_X4_voiceTurns) (pc := 7) dX4_voiceTurns_7 rfl ?_
  refine ev_iload_n (X := M_X4_voiceTurns) (pc := 8) dX4_voiceTurns_8 rfl ?_
  refine ev_aload_n (X := M_X4_voiceTurns) (pc := 9) dX4_voiceTurns_9 rfl ?_
  refine ev_vMeets (X := M_X4_voiceTurns) (pc := 10) dX4_voiceTurns_10 kw_868 h2 ho (by decide) (Nat.le_of_ble_eq_true rfl) ?_
  refine ev_iconst (X := M_X4_voiceTurns) (pc := 13) dX4_voiceTurns_13 ?_
  refine ev_imul (X := M_X4_voiceTurns) (pc := 14) dX4_voiceTurns_14 ?_
  refine ev_iret (X := M_X4_voiceTurns) (pc := 15) dX4_voiceTurns_15 rfl ?_
  exact ⟨rfl, rfl, by rw [ctW_app]⟩
theorem c_vT1 {γ : Gh} {K : Sk} {V : Mm} {c : Nat} {o p m x : Int} (h : PC K V c o p m 7) (ho : o = 1 ∨ o = 4) : Call γ M_X9_voiceTurns 4 0 0 [vR c, vI x, vR 143] K V (Rt (some (vI (metF o p x * 2 - stF' o p m 1))) K (ctW V ([20, 11] ++ metL o ++ stL' o))) := by
  refine call_of (by decide +kernel) (by intro v hv; simp only [List.mem_cons, List.not_mem_nil, or_false] at hv; rcases hv with rfl | rfl | rfl <;> exact fun q => by cases q) (Nat.le_of_ble_eq_true rfl) ?_
  refine ev_lsE (ls' := [_, _, _, _]) rfl ?_
  have hL := h.1
  have ht := h.2.2.2
  have hml := metL_n o
  have h2 : PC K (ctW V [20]) c o p m 6 := h.tr (by decide)
  have h3 : PC K (ctW (ctW V [20]) ([11] ++ metL o)) c o p m 3 := h2.tr (by simp only [List.length_append, List.length_cons, List.length_nil]; omega)
  obtain ⟨r, hr⟩ := lcl_cl o
  have hs : stF' o p m 1 = 1 - m := by rcases ho with z | z <;> subst z <;> rfl
  have hs2 : stL' o = [12] := by rcases ho with z | z <;> subst z <;> rfl
  have tail : Ev γ M_X9_voiceTurns 4 0 0 21 [vR c, vI x, vR 143, vI (metF o p x * 2)] [vI (1 - m), vI (metF o p x * 2)] K (ctW (ctW (ctW V [20]) ([11] ++ metL o)) [12]) (Rt (some (vI (metF o p x * 2 - stF' o p m 1))) K (ctW V ([20, 11] ++ metL o ++ stL' o))) := by
    refine ev_isub (X := M_X9_voiceTurns) (pc := 21) dX9_voiceTurns_21 ?_
    refine ev_iret (X := M_X9_voiceTurns) (pc := 22) dX9_voiceTurns_22 rfl ?_
    refine ⟨by rw [hs], rfl, ?_⟩
    rw [hs2, ctW_app ([20, 11] ++ metL o), ← ctW_app [20]]
    rfl
  refine ev_aload_n (X := M_X9_voiceTurns) (pc := 0) dX9_voiceTurns_0 rfl ?_
  refine ev_bipush (X := M_X9_voiceTurns) (pc := 1) dX9_voiceTurns_1 (by decide) ?_
  refine ev_virtR (X := M_X9_voiceTurns) (Y := M_X5_add) (pc := 3) (ci := 5) dX9_voiceTurns_3 mk_X5_add rfl kw_853 kw_450 kw_451 (lO_143 hL) (c_bod h.1 (by omega)) rfl (by decide) rfl (Nat.le_of_ble_eq_true rfl) (Nat.zero_add _) (Nat.zero_add _) ?_
  refine ev_pop (X := M_X9_voiceTurns) (pc := 6) dX9_voiceTurns_6 (fun _ q => by cases q) ?_
  refine ev_aload_n (X := M_X9_voiceTurns) (pc := 7) dX9_voiceTurns_7 rfl ?_
  refine ev_iload_n (X := M_X9_voiceTurns) (pc := 8) dX9_voiceTurns_8 rfl ?_
  refine ev_aload_n (X := M_X9_voiceTurns) (pc := 9) dX9_voiceTurns_9 rfl ?_
  refine ev_superR (X := M_X9_voiceTurns) (pc := 10) (Y := M_X4_voiceTurns) (ci := lcl o) dX9_voiceTurns_10 mk_X4_voiceTurns (by decide) hr kw_854 kw_843 kw_845 kw_125 h2.2.1.1 (c_vT0 (h2.le (by decide)) (by omega)) rfl (by decide) rfl (Nat.le_of_ble_eq_true rfl) (Nat.zero_add _) (Nat.zero_add _) ?_
  refine ev_istore_nL (X := M_X9_voiceTurns) (pc := 13) (ls' := [_, _, _, _]) dX9_voiceTurns_13 (by decide) rfl ?_
  refine ev_iload_n (X := M_X9_voiceTurns) (pc := 14) dX9_voiceTurns_14 rfl ?_
  refine ev_aload_n (X := M_X9_voiceTurns) (pc := 15) dX9_voiceTurns_15 rfl ?_
  refine ev_iconst (X := M_X9_voiceTurns) (pc := 16) dX9_voiceTurns_16 ?_
  refine ev_aload_n (X := M_X9_voiceTurns) (pc := 17) dX9_voiceTurns_17 rfl ?_
  rcases ho with z | z
  · have hO : (K.1 c).1 = 9 + 10 := by rw [h.2.1.1, z]; rfl
    exact ev_virtUR (X := M_X9_voiceTurns) (pc := 18) (Y := M_X4_voiceStays) (ci := 9) dX9_voiceTurns_18 mk_X4_voiceStays rfl kw_855 kw_860 kw_859 kw_856 kw_860 kw_861 ⟨by decide, by decide⟩ rfl hO (c_vS0 (h3.le (by decide))) rfl (by decide) rfl (Nat.le_of_ble_eq_true rfl) (Nat.zero_add _) (Nat.zero_add _) (ev_weak tail ⟨rfl, rfl, rfl, rfl, trivial⟩)
  · have hO : (K.1 c).1 = 0 + 10 := by rw [h.2.1.1, z]; rfl
    exact ev_virtUR (X := M_X9_voiceTurns) (pc := 18) (Y := M_X4_voiceStays) (ci := 0) dX9_voiceTurns_18 mk_X4_voiceStays rfl kw_855 kw_860 kw_858 kw_856 kw_860 kw_861 ⟨by decide, by decide⟩ rfl hO (c_vS0 (h3.le (by decide))) rfl (by decide) rfl (Nat.le_of_ble_eq_true rfl) (Nat.zero_add _) (Nat.zero_add _) (ev_weak tail ⟨rfl, rfl, rfl, rfl, trivial⟩)
theorem c_vT4 {γ : Gh} {K : Sk} {V : Mm} {c : Nat} {o p m x : Int} (h : PC K V c o p m 8) (ho : o = 4) : Call γ M_X0_voiceTurns 5 0 0 [vR c, vI x, vR 143] K V (Rt (some (vI (metF o p (x + 1) * 2 - stF' o p m 1))) K (ctW V ([50, 20, 11] ++ metL o ++ stL' o))) := by
  refine call_of (by decide +kernel) (by intro v hv; simp only [List.mem_cons, List.not_mem_nil, or_false] at hv; rcases hv with rfl | rfl | rfl <;> exact fun q => by cases q) (Nat.le_of_ble_eq_true rfl) ?_
  refine ev_lsE (ls' := [_, _, _]) rfl ?_
  have hL := h.1
  have ht := h.2.2.2
  have h2 : PC K (ctW V [50]) c o p m 7 := h.tr (by decide)
  obtain ⟨r, hr⟩ := lcl_cl o
  refine ev_aload_n (X := M_X0_voiceTurns) (pc := 0) dX0_voiceTurns_0 rfl ?_
  refine ev_bipush (X := M_X0_voiceTurns) (pc := 1) dX0_voiceTurns_1 (by decide) ?_
  refine ev_virtR (X := M_X0_voiceTurns) (Y := M_X5_add) (pc := 3) (ci := 5) dX0_voiceTurns_3 mk_X5_add rfl kw_849 kw_450 kw_451 (lO_143 hL) (c_bod h.1 (by omega)) rfl (by decide) rfl (Nat.le_of_ble_eq_true rfl) (Nat.zero_add _) (Nat.zero_add _) ?_
  refine ev_pop (X := M_X0_voiceTurns) (pc := 6) dX0_voiceTurns_6 (fun _ q => by cases q) ?_
  refine ev_aload_n (X := M_X0_voiceTurns) (pc := 7) dX0_voiceTurns_7 rfl ?_
  refine ev_iload_n (X := M_X0_voiceTurns) (pc := 8) dX0_voiceTurns_8 rfl ?_
  refine ev_iconst (X := M_X0_voiceTurns) (pc := 9) dX0_voiceTurns_9 ?_
  refine ev_iadd (X := M_X0_voiceTurns) (pc := 10) dX0_voiceTurns_10 ?_
  refine ev_aload_n (X := M_X0_voiceTurns) (pc := 11) dX0_voiceTurns_11 rfl ?_
  refine ev_superR (X := M_X0_voiceTurns) (pc := 12) (Y := M_X9_voiceTurns) (ci := lcl o) dX0_voiceTurns_12 mk_X9_voiceTurns (by decide) hr kw_850 kw_851 kw_1450 kw_246 h2.2.1.1 (c_vT1 h2 (Or.inr ho)) rfl (by decide) rfl (Nat.le_of_ble_eq_true rfl) (Nat.zero_add _) (Nat.zero_add _) ?_
  refine ev_iret (X := M_X0_voiceTurns) (pc := 15) dX0_voiceTurns_15 rfl ?_
  exact ⟨rfl, rfl, by rw [← ctW_app]; rfl⟩
theorem ev_vTurns {γ : Gh} {X : MX} {d mc ms pc : Nat} {ls st : List PV} {K : Sk} {V : Mm} {Q : Option PV → Sk → Mm → Prop} {index c : Nat} {o p m x : Int} (hd : decode X.2.1 pc = .ok (.invokevirtual index, 3)) (w1 : Cond.methodLink X.1.cls index yX4_voiceTurns ∈ tb) (h : PC K V c o p m 8) (ho : 0 ≤ o ∧ o ≤ 6) (hd' : 5 < d) (hW : (st.map pcat).sum ≤ 8) (kk : Ev γ X d mc ms (pc + 3) ls (vI (tuF o o p m x) :: st) K (ctW V (tuL o o)) Q) : Ev γ X d mc ms pc ls (vR 143 :: vI x :: vR c :: st) K V Q := by
  have hO := h.2.1.1
  rcases (show o = 0 ∨ o = 1 ∨ o = 2 ∨ o = 3 ∨ o = 4 ∨ o = 5 ∨ o = 6 by omega) with z | z | z | z | z | z | z <;> subst z
  · exact ev_virtUR (Y := M_X4_voiceTurns) (ci := 4) hd mk_X4_voiceTurns rfl w1 kw_843 kw_844 kw_845 kw_843 kw_867 ⟨by decide, by decide⟩ rfl hO (c_vT0 (h.le (by decide)) (by decide)) rfl (Nat.lt_of_le_of_lt (by decide) hd') rfl hW (Nat.zero_add _) (Nat.zero_add _) kk
  · exact ev_virtUR (Y := M_X9_voiceTurns) (ci := 9) hd mk_X9_voiceTurns rfl w1 kw_851 kw_865 kw_845 kw_843 kw_867 ⟨by decide, by decide⟩ rfl hO (c_vT1 (h.le (by decide)) (Or.inl rfl)) rfl (Nat.lt_of_le_of_lt (by decide) hd') rfl hW (Nat.zero_add _) (Nat.zero_add _) kk
  · exact ev_virtUR (Y := M_X4_voiceTurns) (ci := 1) hd mk_X4_voiceTurns rfl w1 kw_843 kw_862 kw_845 kw_843 kw_867 ⟨by decide, by decide⟩ rfl hO (c_vT0 (h.le (by decide)) (by decide)) rfl (Nat.lt_of_le_of_lt (by decide) hd') rfl hW (Nat.zero_add _) (Nat.zero_add _) kk
  · exact ev_virtUR (Y := M_X4_voiceTurns) (ci := 7) hd mk_X4_voiceTurns rfl w1 kw_843 kw_864 kw_845 kw_843 kw_867 ⟨by decide, by decide⟩ rfl hO (c_vT0 (h.le (by decide)) (by decide)) rfl (Nat.lt_of_le_of_lt (by decide) hd') rfl hW (Nat.zero_add _) (Nat.zero_add _) kk
  · exact ev_virtUR (Y := M_X0_voiceTurns) (ci := 0) hd mk_X0_voiceTurns rfl w1 kw_847 kw_846 kw_845 kw_843 kw_867 ⟨by decide, by decide⟩ rfl hO (c_vT4 h rfl) rfl (Nat.lt_of_le_of_lt (by decide) hd') rfl hW (Nat.zero_add _) (Nat.zero_add _) kk
  · exact ev_virtUR (Y := M_X4_voiceTurns) (ci := 3) hd mk_X4_voiceTurns rfl w1 kw_843 kw_863 kw_845 kw_843 kw_867 ⟨by decide, by decide⟩ rfl hO (c_vT0 (h.le (by decide)) (by decide)) rfl (Nat.lt_of_le_of_lt (by decide) hd') rfl hW (Nat.zero_add _) (Nat.zero_add _) kk
  · exact ev_virtUR (Y := M_X4_voiceTurns) (ci := 10) hd mk_X4_voiceTurns rfl w1 kw_843 kw_866 kw_845 kw_843 kw_867 ⟨by decide, by decide⟩ rfl hO (c_vT0 (h.le (by decide)) (by decide)) rfl (Nat.lt_of_le_of_lt (by decide) hd') rfl hW (Nat.zero_add _) (Nat.zero_add _) kk
theorem c_vE0 {γ : Gh} {K : Sk} {V : Mm} {c : Nat} {o p m x : Int} (h : PC K V c o p m 12) (ho : 0 ≤ o ∧ o ≤ 6) : Call γ M_X4_voiceTells 6 0 0 [vR c, vI x, vR 143] K V (Rt (some (vI (te0 o p m x))) K (ctW V (te0L o))) := by
  refine call_of (by decide +kernel) (by intro v hv; simp only [List.mem_cons, List.not_mem_nil, or_false] at hv; rcases hv with rfl | rfl | rfl <;> exact fun q => by cases q) (Nat.le_of_ble_eq_true rfl) ?_
  refine ev_lsE (ls' := [_, _, _, _]) rfl ?_
  have hL := h.1
  have ht := h.2.2.2
  have hml := tuL_n o o
  have h2 : PC K (ctW V [13]) c o p m 11 := h.tr (by decide)
  have h3 : PC K (ctW (ctW V [13]) (tuL o o)) c o p m 3 := h2.tr (by omega)
  refine ev_aload_n (X := M_X4_voiceTells) (pc := 0) dX4_voiceTells_0 rfl ?_
  refine ev_bipush (X := M_X4_voiceTells) (pc := 1) dX4_voiceTells_1 (by decide) ?_
  refine ev_virtR (X := M_X4_voiceTells) (Y := M_X5_add) (pc := 3) (ci := 5) dX4_voiceTells_3 mk_X5_add rfl kw_841 kw_450 kw_451 (lO_143 hL) (c_bod h.1 (by omega)) rfl (by decide) rfl (Nat.le_of_ble_eq_true rfl) (Nat.zero_add _) (Nat.zero_add _) ?_
  refine ev_pop (X := M_X4_voiceTells) (pc := 6) dX4_voiceTells_6 (fun _ q => by cases q) ?_
  refine ev_aload_n (X := M_X4_voiceTells) (pc := 7) dX4_voiceTells_7 rfl ?_
  refine ev_iload_n (X := M_X4_voiceTells) (pc := 8) dX4_voiceTells_8 rfl ?_
  refine ev_aload_n (X := M_X4_voiceTells) (pc := 9) dX4_voiceTells_9 rfl ?_
  refine ev_vTurns (X := M_X4_voiceTells) (pc := 10) dX4_voiceTells_10 kw_907 (h2.le (by decide)) ho (by decide) (Nat.le_of_ble_eq_true rfl) ?_
  refine ev_istore_nL (X := M_X4_voiceTells) (pc := 13) (ls' := [_, _, _, _]) dX4_voiceTells_13 (by decide) rfl ?_
  refine ev_iload_n (X := M_X4_voiceTells) (pc := 14) dX4_voiceTells_14 rfl ?_
  refine ev_aload_n (X := M_X4_voiceTells) (pc := 15) dX4_voiceTells_15 rfl ?_
  refine ev_iload_n (X := M_X4_voiceTells) (pc := 16) dX4_voiceTells_16 rfl ?_
  refine ev_aload_n (X := M_X4_voiceTells) (pc := 17) dX4_voiceTells_17 rfl ?_
  refine ev_vStays (X := M_X4_voiceTells) (pc := 18) dX4_voiceTells_18 kw_908 h3 ho (by decide) (Nat.le_of_ble_eq_true rfl) ?_
  refine ev_ixor (X := M_X4_voiceTells) (pc := 21) dX4_voiceTells_21 ?_
  refine ev_iret (X := M_X4_voiceTells) (pc := 22) dX4_voiceTells_22 rfl ?_
  refine ⟨rfl, rfl, ?_⟩
  unfold te0L
  rw [ctW_app ([13] ++ tuL o o), ctW_app [13]]
theorem c_vE5 {γ : Gh} {K : Sk} {V : Mm} {c : Nat} {o p m x : Int} (h : PC K V c o p m 24) (ho : o = 5) : Call γ M_X3_voiceTells 7 0 0 [vR c, vI x, vR 143] K V (Rt (some (vI (te0 o p m x - metF o p 2))) K (ctW V ([60] ++ te0L o ++ metL o))) := by
  refine call_of (by decide +kernel) (by intro v hv; simp only [List.mem_cons, List.not_mem_nil, or_false] at hv; rcases hv with rfl | rfl | rfl <;> exact fun q => by cases q) (Nat.le_of_ble_eq_true rfl) ?_
  refine ev_lsE (ls' := [_, _, _, _]) rfl ?_
  have hL := h.1
  have ht := h.2.2.2
  have hml := te0L_n o
  have h2 : PC K (ctW V [60]) c o p m 23 := h.tr (by decide)
  have h3 : PC K (ctW (ctW V [60]) (te0L o)) c o p m 2 := h2.tr (by omega)
  obtain ⟨r, hr⟩ := lcl_cl o
  have hO : (K.1 c).1 = 3 + 10 := by rw [h.2.1.1, ho]; rfl
  have hs : metF o p 2 = (2 + p) * 3 := by subst ho; rfl
  have hs2 : metL o = [30, 10] := by subst ho; rfl
  refine ev_aload_n (X := M_X3_voiceTells) (pc := 0) dX3_voiceTells_0 rfl ?_
  refine ev_bipush (X := M_X3_voiceTells) (pc := 1) dX3_voiceTells_1 (by decide) ?_
  refine ev_virtR (X := M_X3_voiceTells) (Y := M_X5_add) (pc := 3) (ci := 5) dX3_voiceTells_3 mk_X5_add rfl kw_887 kw_450 kw_451 (lO_143 hL) (c_bod h.1 (by omega)) rfl (by decide) rfl (Nat.le_of_ble_eq_true rfl) (Nat.zero_add _) (Nat.zero_add _) ?_
  refine ev_pop (X := M_X3_voiceTells) (pc := 6) dX3_voiceTells_6 (fun _ q => by cases q) ?_
  refine ev_aload_n (X := M_X3_voiceTells) (pc := 7) dX3_voiceTells_7 rfl ?_
  refine ev_iload_n (X := M_X3_voiceTells) (pc := 8) dX3_voiceTells_8 rfl ?_
  refine ev_aload_n (X := M_X3_voiceTells) (pc := 9) dX3_voiceTells_9 rfl ?_
  refine ev_superUR (X := M_X3_voiceTells) (pc := 10) (Y := M_X4_voiceTells) (ci := lcl o) dX3_voiceTells_10 mk_X4_voiceTells (by decide) hr kw_888 rfl rfl kw_879 kw_889 kw_257 kw_355 h2.2.1.1 (c_vE0 (h2.le (by decide)) (by omega)) rfl (by decide) rfl (Nat.le_of_ble_eq_true rfl) (Nat.zero_add _) (Nat.zero_add _) ?_
  refine ev_istore_nL (X := M_X3_voiceTells) (pc := 13) (ls' := [_, _, _, _]) dX3_voiceTells_13 (by decide) rfl ?_
  refine ev_iload_n (X := M_X3_voiceTells) (pc := 14) dX3_voiceTells_14 rfl ?_
  refine ev_aload_n (X := M_X3_voiceTells) (pc := 15) dX3_voiceTells_15 rfl ?_
  refine ev_iconst (X := M_X3_voiceTells) (pc := 16) dX3_voiceTells_16 ?_
  refine ev_aload_n (X := M_X3_voiceTells) (pc := 17) dX3_voiceTells_17 rfl ?_
  refine ev_virtUR (X := M_X3_voiceTells) (pc := 18) (Y := M_X1_voiceMeets) (ci := 3) dX3_voiceTells_18 mk_X1_voiceMeets rfl kw_891 kw_832 kw_894 kw_892 kw_832 kw_833 ⟨by decide, by decide⟩ rfl hO (c_vM2 h3) rfl (by decide) rfl (Nat.le_of_ble_eq_true rfl) (Nat.zero_add _) (Nat.zero_add _) ?_
  refine ev_isub (X := M_X3_voiceTells) (pc := 21) dX3_voiceTells_21 ?_
  refine ev_iret (X := M_X3_voiceTells) (pc := 22) dX3_voiceTells_22 rfl ?_
  refine ⟨by rw [hs], rfl, ?_⟩
  rw [hs2, ctW_app ([60] ++ te0L o), ctW_app [60]]
theorem c_vE6 {γ : Gh} {K : Sk} {V : Mm} {c : Nat} {o p m x : Int} (h : PC K V c o p m 24) (ho : o = 6) : Call γ M_X10_voiceTells 7 0 0 [vR c, vI x, vR 143] K V (Rt (some (vI (tuF o o p m x - te0 o p m x))) K (ctW V ([71] ++ tuL o o ++ te0L o))) := by
  refine call_of (by decide +kernel) (by intro v hv; simp only [List.mem_cons, List.not_mem_nil, or_false] at hv; rcases hv with rfl | rfl | rfl <;> exact fun q => by cases q) (Nat.le_of_ble_eq_true rfl) ?_
  refine ev_lsE (ls' := [_, _, _, _]) rfl ?_
  have hL := h.1
  have ht := h.2.2.2
  have hml := tuL_n o o
  have h2 : PC K (ctW V [71]) c o p m 23 := h.tr (by decide)
  obtain ⟨r, hr⟩ := lcl_cl o
  have hO : (K.1 c).1 = 10 + 10 := by rw [h.2.1.1, ho]; rfl
  have hs : tuF o o p m x = metF o p x * 2 := by subst ho; rfl
  have hs2 : tuL o o = [11] ++ metL o := by subst ho; rfl
  have h3 : PC K (ctW (ctW V [71]) ([11] ++ metL o)) c o p m 12 := h2.tr (by rw [← hs2]; omega)
  refine ev_aload_n (X := M_X10_voiceTells) (pc := 0) dX10_voiceTells_0 rfl ?_
  refine ev_bipush (X := M_X10_voiceTells) (pc := 1) dX10_voiceTells_1 (by decide) ?_
  refine ev_virtR (X := M_X10_voiceTells) (Y := M_X5_add) (pc := 3) (ci := 5) dX10_voiceTells_3 mk_X5_add rfl kw_876 kw_450 kw_451 (lO_143 hL) (c_bod h.1 (by omega)) rfl (by decide) rfl (Nat.le_of_ble_eq_true rfl) (Nat.zero_add _) (Nat.zero_add _) ?_
  refine ev_pop (X := M_X10_voiceTells) (pc := 6) dX10_voiceTells_6 (fun _ q => by cases q) ?_
  refine ev_aload_n (X := M_X10_voiceTells) (pc := 7) dX10_voiceTells_7 rfl ?_
  refine ev_iload_n (X := M_X10_voiceTells) (pc := 8) dX10_voiceTells_8 rfl ?_
  refine ev_aload_n (X := M_X10_voiceTells) (pc := 9) dX10_voiceTells_9 rfl ?_
  refine ev_virtUR (X := M_X10_voiceTells) (pc := 10) (Y := M_X4_voiceTurns) (ci := 10) dX10_voiceTells_10 mk_X4_voiceTurns rfl kw_900 kw_843 kw_903 kw_901 kw_843 kw_867 ⟨by decide, by decide⟩ rfl hO (c_vT0 (h2.le (by decide)) (by omega)) rfl (by decide) rfl (Nat.le_of_ble_eq_true rfl) (Nat.zero_add _) (Nat.zero_add _) ?_
  refine ev_istore_nL (X := M_X10_voiceTells) (pc := 13) (ls' := [_, _, _, _]) dX10_voiceTells_13 (by decide) rfl ?_
  refine ev_iload_n (X := M_X10_voiceTells) (pc := 14) dX10_voiceTells_14 rfl ?_
  refine ev_aload_n (X := M_X10_voiceTells) (pc := 15) dX10_voiceTells_15 rfl ?_
  refine ev_iload_n (X := M_X10_voiceTells) (pc := 16) dX10_voiceTells_16 rfl ?_
  refine ev_aload_n (X := M_X10_voiceTells) (pc := 17) dX10_voiceTells_17 rfl ?_
  refine ev_superUR (X := M_X10_voiceTells) (pc := 18) (Y := M_X4_voiceTells) (ci := lcl o) dX10_voiceTells_18 mk_X4_voiceTells (by decide) hr kw_904 rfl rfl kw_879 kw_905 kw_280 kw_262 h3.2.1.1 (c_vE0 h3 (by omega)) rfl (by decide) rfl (Nat.le_of_ble_eq_true rfl) (Nat.zero_add _) (Nat.zero_add _) ?_
  refine ev_isub (X := M_X10_voiceTells) (pc := 21) dX10_voiceTells_21 ?_
  refine ev_iret (X := M_X10_voiceTells) (pc := 22) dX10_voiceTells_22 rfl ?_
  refine ⟨by rw [hs], rfl, ?_⟩
  rw [hs2, ctW_app ([71] ++ ([11] ++ metL o)), ctW_app [71]]
theorem ev_vTells {γ : Gh} {X : MX} {d mc ms pc : Nat} {ls st : List PV} {K : Sk} {V : Mm} {Q : Option PV → Sk → Mm → Prop} {index c : Nat} {o p m x : Int} (hd : decode X.2.1 pc = .ok (.invokevirtual index, 3)) (w1 : Cond.methodLink X.1.cls index yX4_voiceTells ∈ tb) (h : PC K V c o p m 24) (ho : 0 ≤ o ∧ o ≤ 6) (hd' : 7 < d) (hW : (st.map pcat).sum ≤ 8) (kk : Ev γ X d mc ms (pc + 3) ls (vI (teF o o p m x) :: st) K (ctW V (teL o o)) Q) : Ev γ X d mc ms pc ls (vR 143 :: vI x :: vR c :: st) K V Q := by
  have hO := h.2.1.1
  rcases (show o = 0 ∨ o = 1 ∨ o = 2 ∨ o = 3 ∨ o = 4 ∨ o = 5 ∨ o = 6 by omega) with z | z | z | z | z | z | z <;> subst z
  · exact ev_virtUR (Y := M_X4_voiceTells) (ci := 4) hd mk_X4_voiceTells rfl w1 kw_879 kw_880 kw_881 kw_879 kw_906 ⟨by decide, by decide⟩ rfl hO (c_vE0 (h.le (by decide)) (by decide)) rfl (Nat.lt_of_le_of_lt (by decide) hd') rfl hW (Nat.zero_add _) (Nat.zero_add _) kk
  · exact ev_virtUR (Y := M_X4_voiceTells) (ci := 9) hd mk_X4_voiceTells rfl w1 kw_879 kw_896 kw_881 kw_879 kw_906 ⟨by decide, by decide⟩ rfl hO (c_vE0 (h.le (by decide)) (by decide)) rfl (Nat.lt_of_le_of_lt (by decide) hd') rfl hW (Nat.zero_add _) (Nat.zero_add _) kk
  · exact ev_virtUR (Y := M_X4_voiceTells) (ci := 1) hd mk_X4_voiceTells rfl w1 kw_879 kw_883 kw_881 kw_879 kw_906 ⟨by decide, by decide⟩ rfl hO (c_vE0 (h.le (by decide)) (by decide)) rfl (Nat.lt_of_le_of_lt (by decide) hd') rfl hW (Nat.zero_add _) (Nat.zero_add _) kk
  · exact ev_virtUR (Y := M_X4_voiceTells) (ci := 7) hd mk_X4_voiceTells rfl w1 kw_879 kw_895 kw_881 kw_879 kw_906 ⟨by decide, by decide⟩ rfl hO (c_vE0 (h.le (by decide)) (by decide)) rfl (Nat.lt_of_le_of_lt (by decide) hd') rfl hW (Nat.zero_add _) (Nat.zero_add _) kk
  · exact ev_virtUR (Y := M_X4_voiceTells) (ci := 0) hd mk_X4_voiceTells rfl w1 kw_879 kw_882 kw_881 kw_879 kw_906 ⟨by decide, by decide⟩ rfl hO (c_vE0 (h.le (by decide)) (by decide)) rfl (Nat.lt_of_le_of_lt (by decide) hd') rfl hW (Nat.zero_add _) (Nat.zero_add _) kk
  · exact ev_virtUR (Y := M_X3_voiceTells) (ci := 3) hd mk_X3_voiceTells rfl w1 kw_885 kw_884 kw_881 kw_879 kw_906 ⟨by decide, by decide⟩ rfl hO (c_vE5 h rfl) rfl (Nat.lt_of_le_of_lt (by decide) hd') rfl hW (Nat.zero_add _) (Nat.zero_add _) kk
  · exact ev_virtUR (Y := M_X10_voiceTells) (ci := 10) hd mk_X10_voiceTells rfl w1 kw_898 kw_897 kw_881 kw_879 kw_906 ⟨by decide, by decide⟩ rfl hO (c_vE6 h rfl) rfl (Nat.lt_of_le_of_lt (by decide) hd') rfl hW (Nat.zero_add _) (Nat.zero_add _) kk
theorem c_voice {γ : Gh} {K : Sk} {V : Mm} {D E : Int → Int} {im : Int} {er : Int → Int} (h : CI K V D E im er) (hw : DL D) {p a x : Int} (hp : R32 p) (ha : R32 a) : Call γ M_X11_voice 8 0 0 [vR 100, vI p, vI a, vI x] K V (Rt (some (vI (aR (voK p a) (voF a (D (3 + p)) p (D (9 + p)) x)))) K (if voK p a = 0 then ctW (wr V 143 1 0) (voL a (D (3 + p))) else err V 1)) := by
  refine call_of (by decide +kernel) (by intro v hv; simp only [List.mem_cons, List.not_mem_nil, or_false] at hv; rcases hv with rfl | rfl | rfl | rfl <;> exact fun q => by cases q) (Nat.le_of_ble_eq_true rfl) ?_
  refine ev_lsE (ls' := [_, _, _, _, _]) rfl ?_
  have hL := h.1.L
  have hLT := h.1.2.2.2.2.1
  refine ev_iload_n (X := M_X11_voice) (pc := 0) dX11_voice_0 rfl ?_
  refine ev_staticR (X := M_X11_voice) (Y := M_X11_isPair) (pc := 1) dX11_voice_1 mk_X11_isPair kw_336 kw_337 (c_isPair hp) rfl (by decide) rfl (Nat.le_of_ble_eq_true rfl) (Nat.zero_add _) (Nat.zero_add _) ?_
  refine ev_if_eq (X := M_X11_voice) (pc := 4) (tgt := 16) dX11_voice_4 (by decide) (by split <;> decide) (fun h4 => ?_) (fun h4 => ?_)
  · have hk : voK p a = 1 := by unfold voK; rw [if_neg (fun z => by rw [if_pos z.1] at h4; exact absurd h4 (by decide))]
    refine ev_aload_n (X := M_X11_voice) (pc := 16) dX11_voice_16 rfl ?_
    refine ev_ldc (X := M_X11_voice) (pc := 17) (v := -1000000001) dX11_voice_17 kw_318 (by decide) ?_
    refine ev_virtR (X := M_X11_voice) (Y := M_X11_error) (pc := 19) (ci := 11) dX11_voice_19 mk_X11_error rfl kw_319 kw_321 kp_0 (lO_100 hL) (c_error hL (k := 1) (by decide) rfl) rfl (by decide) rfl (Nat.le_of_ble_eq_true rfl) (Nat.zero_add _) (Nat.zero_add _) ?_
    refine ev_iret (X := M_X11_voice) (pc := 22) dX11_voice_22 rfl ?_
    rw [hk]
    exact ⟨rfl, rfl, rfl⟩
  · have hs3 : 0 ≤ p ∧ p < 6 := Decidable.byContradiction fun z => h4 (by rw [if_neg z])
    refine ev_iload_n (X := M_X11_voice) (pc := 7) dX11_voice_7 rfl ?_
    refine ev_if_lt (X := M_X11_voice) (pc := 8) (tgt := 16) dX11_voice_8 (by decide) (by omega) (fun h8 => ?_) (fun h8 => ?_)
    · have hk : voK p a = 1 := by unfold voK; rw [if_neg (by omega)]
      refine ev_aload_n (X := M_X11_voice) (pc := 16) dX11_voice_16 rfl ?_
      refine ev_ldc (X := M_X11_voice) (pc := 17) (v := -1000000001) dX11_voice_17 kw_318 (by decide) ?_
      refine ev_virtR (X := M_X11_voice) (Y := M_X11_error) (pc := 19) (ci := 11) dX11_voice_19 mk_X11_error rfl kw_319 kw_321 kp_0 (lO_100 hL) (c_error hL (k := 1) (by decide) rfl) rfl (by decide) rfl (Nat.le_of_ble_eq_true rfl) (Nat.zero_add _) (Nat.zero_add _) ?_
      refine ev_iret (X := M_X11_voice) (pc := 22) dX11_voice_22 rfl ?_
      rw [hk]
      exact ⟨rfl, rfl, rfl⟩
    · refine ev_iload_n (X := M_X11_voice) (pc := 11) dX11_voice_11 rfl ?_
      refine ev_iconst (X := M_X11_voice) (pc := 12) dX11_voice_12 ?_
      refine ev_icmp_le (X := M_X11_voice) (pc := 13) (tgt := 23) dX11_voice_13 (by decide) (by omega) (by omega) (fun h13 => ?_) (fun h13 => ?_)
      · have hk : voK p a = 0 := by unfold voK; rw [if_pos (by omega)]
        have ho := (hw.2.1.1 p hs3.1 hs3.2).1
        obtain ⟨c, hc⟩ : ∃ c, K.2.1 103 p = c := ⟨_, rfl⟩
        have hA := hLT.1 p hs3
        have hA : LawA K V c p (D (3 + p)) (D (9 + p)) := by rw [← hc]; exact hA
        refine ev_aload_n (X := M_X11_voice) (pc := 23) dX11_voice_23 rfl ?_
        refine ev_getRe (X := M_X11_voice) (pc := 24) dX11_voice_24 fl_X11_37_11 (lO_100 hL) rfl (lR_100_3 hL) ?_
        refine ev_iconst (X := M_X11_voice) (pc := 27) dX11_voice_27 ?_
        refine ev_putI (X := M_X11_voice) (pc := 28) (ki := 1) dX11_voice_28 fl_X11_122_5 (by decide) (lO_143 hL) (fun _ h q => by cases h; cases q) (Or.inl rfl) rfl ?_
        obtain ⟨V0, hV0⟩ : ∃ V0, wr V 143 1 0 = V0 := ⟨_, rfl⟩
        have hP : PC K V0 c (D (3 + p)) p (D (9 + p)) 24 := by
          refine ⟨hL, hA.mv (fun _ _ => rfl) (fun y z _ _ => ?_), hs3, ?_, ?_⟩
          · have hoo : (112 ≤ y ∧ y ≤ 117) ∨ (137 ≤ y ∧ y ≤ 142) ∨ 178 ≤ y := z
            rw [← hV0, wr_off (by omega)]
          · rw [← hV0, wr_self]; decide
          · rw [← hV0, wr_self]; decide
        rw [hV0, hk, if_pos rfl]
        refine ev_aload_n (X := M_X11_voice) (pc := 31) dX11_voice_31 rfl ?_
        refine ev_getRe (X := M_X11_voice) (pc := 32) dX11_voice_32 fl_X11_20_11 (lO_100 hL) rfl (lR_100_0 hL) ?_
        refine ev_getRe (X := M_X11_voice) (pc := 35) dX11_voice_35 fl_X11_79_2 (lO_102 hL) rfl (lR_102_0 hL) ?_
        refine ev_iload_n (X := M_X11_voice) (pc := 38) dX11_voice_38 rfl ?_
        refine ev_aaloadE (X := M_X11_voice) (pc := 39) dX11_voice_39 (lS_103 hL) (by decide) (by decide) (by omega) (hc) ?_
        refine ev_astoreL (X := M_X11_voice) (pc := 40) (ls' := [_, _, _, _, _]) dX11_voice_40 (by decide) rfl ?_
        refine ev_iload_n (X := M_X11_voice) (pc := 42) dX11_voice_42 rfl ?_
        rcases (show a = 0 ∨ a = 1 ∨ a = 2 ∨ (a < 0 ∨ 2 < a) by omega) with h43 | h43 | h43 | h43
        · refine ev_tableIn (X := M_X11_voice) (pc := 43) (off := 25) (tgt := 68) dX11_voice_43 (by omega) (by omega) (by omega) (by rw [h43]; rfl) (by decide) ?_
          refine ev_aload (X := M_X11_voice) (pc := 68) dX11_voice_68 rfl ?_
          refine ev_iload_n (X := M_X11_voice) (pc := 70) dX11_voice_70 rfl ?_
          refine ev_aload_n (X := M_X11_voice) (pc := 71) dX11_voice_71 rfl ?_
          refine ev_getRe (X := M_X11_voice) (pc := 72) dX11_voice_72 fl_X11_37_11 (lO_100 hL) rfl (lR_100_3 hL) ?_
          refine ev_vMeets (X := M_X11_voice) (pc := 75) dX11_voice_75 kw_826 (hP.le (by decide)) ho (by decide) (Nat.le_of_ble_eq_true rfl) ?_
          refine ev_iret (X := M_X11_voice) (pc := 78) dX11_voice_78 rfl ?_
          first
            | (rw [h43]; exact ⟨rfl, rfl, rfl⟩)
            | (have hz : a = 3 := by omega
               rw [hz]; exact ⟨rfl, rfl, rfl⟩)
        · refine ev_tableIn (X := M_X11_voice) (pc := 43) (off := 36) (tgt := 79) dX11_voice_43 (by omega) (by omega) (by omega) (by rw [h43]; rfl) (by decide) ?_
          refine ev_aload (X := M_X11_voice) (pc := 79) dX11_voice_79 rfl ?_
          refine ev_iload_n (X := M_X11_voice) (pc := 81) dX11_voice_81 rfl ?_
          refine ev_aload_n (X := M_X11_voice) (pc := 82) dX11_voice_82 rfl ?_
          refine ev_getRe (X := M_X11_voice) (pc := 83) dX11_voice_83 fl_X11_37_11 (lO_100 hL) rfl (lR_100_3 hL) ?_
          refine ev_vTurns (X := M_X11_voice) (pc := 86) dX11_voice_86 kw_842 (hP.le (by decide)) ho (by decide) (Nat.le_of_ble_eq_true rfl) ?_
          refine ev_iret (X := M_X11_voice) (pc := 89) dX11_voice_89 rfl ?_
          first
            | (rw [h43]; exact ⟨rfl, rfl, rfl⟩)
            | (have hz : a = 3 := by omega
               rw [hz]; exact ⟨rfl, rfl, rfl⟩)
        · refine ev_tableIn (X := M_X11_voice) (pc := 43) (off := 47) (tgt := 90) dX11_voice_43 (by omega) (by omega) (by omega) (by rw [h43]; rfl) (by decide) ?_
          refine ev_aload (X := M_X11_voice) (pc := 90) dX11_voice_90 rfl ?_
          refine ev_iload_n (X := M_X11_voice) (pc := 92) dX11_voice_92 rfl ?_
          refine ev_aload_n (X := M_X11_voice) (pc := 93) dX11_voice_93 rfl ?_
          refine ev_getRe (X := M_X11_voice) (pc := 94) dX11_voice_94 fl_X11_37_11 (lO_100 hL) rfl (lR_100_3 hL) ?_
          refine ev_vStays (X := M_X11_voice) (pc := 97) dX11_voice_97 kw_869 (hP.le (by decide)) ho (by decide) (Nat.le_of_ble_eq_true rfl) ?_
          refine ev_iret (X := M_X11_voice) (pc := 100) dX11_voice_100 rfl ?_
          first
            | (rw [h43]; exact ⟨rfl, rfl, rfl⟩)
            | (have hz : a = 3 := by omega
               rw [hz]; exact ⟨rfl, rfl, rfl⟩)
        · refine ev_tableOut (X := M_X11_voice) (pc := 43) (tgt := 101) dX11_voice_43 (by omega) (by omega) (by decide) ?_
          refine ev_aload (X := M_X11_voice) (pc := 101) dX11_voice_101 rfl ?_
          refine ev_iload_n (X := M_X11_voice) (pc := 103) dX11_voice_103 rfl ?_
          refine ev_aload_n (X := M_X11_voice) (pc := 104) dX11_voice_104 rfl ?_
          refine ev_getRe (X := M_X11_voice) (pc := 105) dX11_voice_105 fl_X11_37_11 (lO_100 hL) rfl (lR_100_3 hL) ?_
          refine ev_vTells (X := M_X11_voice) (pc := 108) dX11_voice_108 kw_878 hP ho (by decide) (Nat.le_of_ble_eq_true rfl) ?_
          refine ev_iret (X := M_X11_voice) (pc := 111) dX11_voice_111 rfl ?_
          first
            | (rw [h43]; exact ⟨rfl, rfl, rfl⟩)
            | (have hz : a = 3 := by omega
               rw [hz]; exact ⟨rfl, rfl, rfl⟩)
      · have hk : voK p a = 1 := by unfold voK; rw [if_neg (by omega)]
        refine ev_aload_n (X := M_X11_voice) (pc := 16) dX11_voice_16 rfl ?_
        refine ev_ldc (X := M_X11_voice) (pc := 17) (v := -1000000001) dX11_voice_17 kw_318 (by decide) ?_
        refine ev_virtR (X := M_X11_voice) (Y := M_X11_error) (pc := 19) (ci := 11) dX11_voice_19 mk_X11_error rfl kw_319 kw_321 kp_0 (lO_100 hL) (c_error hL (k := 1) (by decide) rfl) rfl (by decide) rfl (Nat.le_of_ble_eq_true rfl) (Nat.zero_add _) (Nat.zero_add _) ?_
        refine ev_iret (X := M_X11_voice) (pc := 22) dX11_voice_22 rfl ?_
        rw [hk]
        exact ⟨rfl, rfl, rfl⟩
