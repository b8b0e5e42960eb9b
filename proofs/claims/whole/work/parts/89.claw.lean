/-! ===== the class: new laws ===== -/
def lwF (V : Mm) (c : Nat) (kd p m : Int) : Mm := wr (wr (wr (wr (wr V c 0 kd) c 1 p) c 2 m) c 3 (lesF p)) c 4 (greF p)
theorem lwF_off {V : Mm} {c b : Nat} {kd p m : Int} (h : b ≠ c) : lwF V c kd p m b = V b := by unfold lwF; rw [wr_off h, wr_off h, wr_off h, wr_off h, wr_off h]
theorem lwF_at {V : Mm} {c : Nat} {kd p m : Int} : lwF V c kd p m c 0 = kd ∧ lwF V c kd p m c 1 = p ∧ lwF V c kd p m c 2 = m ∧ lwF V c kd p m c 3 = lesF p ∧ lwF V c kd p m c 4 = greF p := by
  unfold lwF
  refine ⟨?_, ?_, ?_, ?_, wr_self⟩
  · rw [wr_ne (by omega), wr_ne (by omega), wr_ne (by omega), wr_ne (by omega), wr_self]
  · rw [wr_ne (by omega), wr_ne (by omega), wr_ne (by omega), wr_self]
  · rw [wr_ne (by omega), wr_ne (by omega), wr_self]
  · rw [wr_ne (by omega), wr_self]
theorem c_iL_0 {γ : Gh} {K : Sk} {V : Mm} (h1 : K.1 1 = (1, 6)) (h2 : K.1 2 = (1, 6)) (hV : SV V) {c : Nat} (hc : 100 ≤ c) {kd p m : Int} (hp : 0 ≤ p ∧ p < 6) (hO : (K.1 c).1 = 0 + 10) : Call γ M_X4_init 1 0 0 [vR c, vI kd, vI p, vI m] K V (Rt none K (lwF V c kd p m)) := by
  refine call_of (by decide +kernel) (by intro v hv; simp only [List.mem_cons, List.not_mem_nil, or_false] at hv; rcases hv with rfl | rfl | rfl | rfl <;> exact fun q => by cases q) (Nat.le_of_ble_eq_true rfl) ?_
  refine ev_lsE (ls' := [_, _, _, _]) rfl ?_
  refine ev_aload_n (X := M_X4_init) (pc := 0) dX4_init_0 rfl ?_
  refine ev_objInit (X := M_X4_init) (pc := 1) dX4_init_1 kw_76 kw_29 kw_30 (by omega) (by decide) (Nat.le_of_ble_eq_true rfl) ?_
  refine ev_aload_n (X := M_X4_init) (pc := 4) dX4_init_4 rfl ?_
  refine ev_iload_n (X := M_X4_init) (pc := 5) dX4_init_5 rfl ?_
  refine ev_putI (X := M_X4_init) (pc := 6) (ki := 0) dX4_init_6 fl_X4_9_0 hc hO (fun _ h q => by cases h; exact ⟨rfl, rfl⟩) (Or.inl rfl) rfl ?_
  refine ev_aload_n (X := M_X4_init) (pc := 9) dX4_init_9 rfl ?_
  refine ev_iload_n (X := M_X4_init) (pc := 10) dX4_init_10 rfl ?_
  refine ev_putI (X := M_X4_init) (pc := 11) (ki := 1) dX4_init_11 fl_X4_15_0 hc hO (fun _ h q => by cases h; exact ⟨rfl, rfl⟩) (Or.inl rfl) rfl ?_
  refine ev_aload_n (X := M_X4_init) (pc := 14) dX4_init_14 rfl ?_
  refine ev_iload_n (X := M_X4_init) (pc := 15) dX4_init_15 rfl ?_
  refine ev_putI (X := M_X4_init) (pc := 16) (ki := 2) dX4_init_16 fl_X4_18_0 hc hO (fun _ h q => by cases h; exact ⟨rfl, rfl⟩) (Or.inl rfl) rfl ?_
  refine ev_aload_n (X := M_X4_init) (pc := 19) dX4_init_19 rfl ?_
  refine ev_getsN (X := M_X4_init) (pc := 20) (q := ("GreenPath", "LESSER", "[I", vR 1)) (host := "GreenPath") dX4_init_20 st_1 kn_77 ?_
  refine ev_iload_n (X := M_X4_init) (pc := 23) dX4_init_23 rfl ?_
  refine ev_ialoadE (X := M_X4_init) (pc := 24) dX4_init_24 h1 (by omega) (show _ = lesF p from by rw [wr_off (by omega), wr_off (by omega), wr_off (by omega)]; exact congrFun hV.1 _) ?_
  refine ev_putI (X := M_X4_init) (pc := 25) (ki := 3) dX4_init_25 fl_X4_25_0 hc hO (fun _ h q => by cases h; exact ⟨rfl, rfl⟩) (Or.inl rfl) rfl ?_
  refine ev_aload_n (X := M_X4_init) (pc := 28) dX4_init_28 rfl ?_
  refine ev_getsN (X := M_X4_init) (pc := 29) (q := ("GreenPath", "GREATER", "[I", vR 2)) (host := "GreenPath") dX4_init_29 st_2 kn_79 ?_
  refine ev_iload_n (X := M_X4_init) (pc := 32) dX4_init_32 rfl ?_
  refine ev_ialoadE (X := M_X4_init) (pc := 33) dX4_init_33 h2 (by omega) (show _ = greF p from by rw [wr_off (by omega), wr_off (by omega), wr_off (by omega), wr_off (by omega)]; exact congrFun hV.2.1 _) ?_
  refine ev_putI (X := M_X4_init) (pc := 34) (ki := 4) dX4_init_34 fl_X4_31_0 hc hO (fun _ h q => by cases h; exact ⟨rfl, rfl⟩) (Or.inl rfl) rfl ?_
  refine ev_vret (X := M_X4_init) (pc := 37) dX4_init_37 rfl ?_
  exact ⟨rfl, rfl, rfl⟩
theorem c_iL_1 {γ : Gh} {K : Sk} {V : Mm} (h1 : K.1 1 = (1, 6)) (h2 : K.1 2 = (1, 6)) (hV : SV V) {c : Nat} (hc : 100 ≤ c) {kd p m : Int} (hp : 0 ≤ p ∧ p < 6) (hO : (K.1 c).1 = 1 + 10) : Call γ M_X4_init 1 0 0 [vR c, vI kd, vI p, vI m] K V (Rt none K (lwF V c kd p m)) := by
  refine call_of (by decide +kernel) (by intro v hv; simp only [List.mem_cons, List.not_mem_nil, or_false] at hv; rcases hv with rfl | rfl | rfl | rfl <;> exact fun q => by cases q) (Nat.le_of_ble_eq_true rfl) ?_
  refine ev_lsE (ls' := [_, _, _, _]) rfl ?_
  refine ev_aload_n (X := M_X4_init) (pc := 0) dX4_init_0 rfl ?_
  refine ev_objInit (X := M_X4_init) (pc := 1) dX4_init_1 kw_76 kw_29 kw_30 (by omega) (by decide) (Nat.le_of_ble_eq_true rfl) ?_
  refine ev_aload_n (X := M_X4_init) (pc := 4) dX4_init_4 rfl ?_
  refine ev_iload_n (X := M_X4_init) (pc := 5) dX4_init_5 rfl ?_
  refine ev_putI (X := M_X4_init) (pc := 6) (ki := 0) dX4_init_6 fl_X4_9_1 hc hO (fun _ h q => by cases h; exact ⟨rfl, rfl⟩) (Or.inl rfl) rfl ?_
  refine ev_aload_n (X := M_X4_init) (pc := 9) dX4_init_9 rfl ?_
  refine ev_iload_n (X := M_X4_init) (pc := 10) dX4_init_10 rfl ?_
  refine ev_putI (X := M_X4_init) (pc := 11) (ki := 1) dX4_init_11 fl_X4_15_1 hc hO (fun _ h q => by cases h; exact ⟨rfl, rfl⟩) (Or.inl rfl) rfl ?_
  refine ev_aload_n (X := M_X4_init) (pc := 14) dX4_init_14 rfl ?_
  refine ev_iload_n (X := M_X4_init) (pc := 15) dX4_init_15 rfl ?_
  refine ev_putI (X := M_X4_init) (pc := 16) (ki := 2) dX4_init_16 fl_X4_18_1 hc hO (fun _ h q => by cases h; exact ⟨rfl, rfl⟩) (Or.inl rfl) rfl ?_
  refine ev_aload_n (X := M_X4_init) (pc := 19) dX4_init_19 rfl ?_
  refine ev_getsN (X := M_X4_init) (pc := 20) (q := ("GreenPath", "LESSER", "[I", vR 1)) (host := "GreenPath") dX4_init_20 st_1 kn_77 ?_
  refine ev_iload_n (X := M_X4_init) (pc := 23) dX4_init_23 rfl ?_
  refine ev_ialoadE (X := M_X4_init) (pc := 24) dX4_init_24 h1 (by omega) (show _ = lesF p from by rw [wr_off (by omega), wr_off (by omega), wr_off (by omega)]; exact congrFun hV.1 _) ?_
  refine ev_putI (X := M_X4_init) (pc := 25) (ki := 3) dX4_init_25 fl_X4_25_1 hc hO (fun _ h q => by cases h; exact ⟨rfl, rfl⟩) (Or.inl rfl) rfl ?_
  refine ev_aload_n (X := M_X4_init) (pc := 28) dX4_init_28 rfl ?_
  refine ev_getsN (X := M_X4_init) (pc := 29) (q := ("GreenPath", "GREATER", "[I", vR 2)) (host := "GreenPath") dX4_init_29 st_2 kn_79 ?_
  refine ev_iload_n (X := M_X4_init) (pc := 32) dX4_init_32 rfl ?_
  refine ev_ialoadE (X := M_X4_init) (pc := 33) dX4_init_33 h2 (by omega) (show _ = greF p from by rw [wr_off (by omega), wr_off (by omega), wr_off (by omega), wr_off (by omega)]; exact congrFun hV.2.1 _) ?_
  refine ev_putI (X := M_X4_init) (pc := 34) (ki := 4) dX4_init_34 fl_X4_31_1 hc hO (fun _ h q => by cases h; exact ⟨rfl, rfl⟩) (Or.inl rfl) rfl ?_
  refine ev_vret (X := M_X4_init) (pc := 37) dX4_init_37 rfl ?_
  exact ⟨rfl, rfl, rfl⟩
theorem c_iL_3 {γ : Gh} {K : Sk} {V : Mm} (h1 : K.1 1 = (1, 6)) (h2 : K.1 2 = (1, 6)) (hV : SV V) {c : Nat} (hc : 100 ≤ c) {kd p m : Int} (hp : 0 ≤ p ∧ p < 6) (hO : (K.1 c).1 = 3 + 10) : Call γ M_X4_init 1 0 0 [vR c, vI kd, vI p, vI m] K V (Rt none K (lwF V c kd p m)) := by
  refine call_of (by decide +kernel) (by intro v hv; simp only [List.mem_cons, List.not_mem_nil, or_false] at hv; rcases hv with rfl | rfl | rfl | rfl <;> exact fun q => by cases q) (Nat.le_of_ble_eq_true rfl) ?_
  refine ev_lsE (ls' := [_, _, _, _]) rfl ?_
  refine ev_aload_n (X := M_X4_init) (pc := 0) dX4_init_0 rfl ?_
  refine ev_objInit (X := M_X4_init) (pc := 1) dX4_init_1 kw_76 kw_29 kw_30 (by omega) (by decide) (Nat.le_of_ble_eq_true rfl) ?_
  refine ev_aload_n (X := M_X4_init) (pc := 4) dX4_init_4 rfl ?_
  refine ev_iload_n (X := M_X4_init) (pc := 5) dX4_init_5 rfl ?_
  refine ev_putI (X := M_X4_init) (pc := 6) (ki := 0) dX4_init_6 fl_X4_9_3 hc hO (fun _ h q => by cases h; exact ⟨rfl, rfl⟩) (Or.inl rfl) rfl ?_
  refine ev_aload_n (X := M_X4_init) (pc := 9) dX4_init_9 rfl ?_
  refine ev_iload_n (X := M_X4_init) (pc := 10) dX4_init_10 rfl ?_
  refine ev_putI (X := M_X4_init) (pc := 11) (ki := 1) dX4_init_11 fl_X4_15_3 hc hO (fun _ h q => by cases h; exact ⟨rfl, rfl⟩) (Or.inl rfl) rfl ?_
  refine ev_aload_n (X := M_X4_init) (pc := 14) dX4_init_14 rfl ?_
  refine ev_iload_n (X := M_X4_init) (pc := 15) dX4_init_15 rfl ?_
  refine ev_putI (X := M_X4_init) (pc := 16) (ki := 2) dX4_init_16 fl_X4_18_3 hc hO (fun _ h q => by cases h; exact ⟨rfl, rfl⟩) (Or.inl rfl) rfl ?_
  refine ev_aload_n (X := M_X4_init) (pc := 19) dX4_init_19 rfl ?_
  refine ev_getsN (X := M_X4_init) (pc := 20) (q := ("GreenPath", "LESSER", "[I", vR 1)) (host := "GreenPath") dX4_init_20 st_1 kn_77 ?_
  refine ev_iload_n (X := M_X4_init) (pc := 23) dX4_init_23 rfl ?_
  refine ev_ialoadE (X := M_X4_init) (pc := 24) dX4_init_24 h1 (by omega) (show _ = lesF p from by rw [wr_off (by omega), wr_off (by omega), wr_off (by omega)]; exact congrFun hV.1 _) ?_
  refine ev_putI (X := M_X4_init) (pc := 25) (ki := 3) dX4_init_25 fl_X4_25_3 hc hO (fun _ h q => by cases h; exact ⟨rfl, rfl⟩) (Or.inl rfl) rfl ?_
  refine ev_aload_n (X := M_X4_init) (pc := 28) dX4_init_28 rfl ?_
  refine ev_getsN (X := M_X4_init) (pc := 29) (q := ("GreenPath", "GREATER", "[I", vR 2)) (host := "GreenPath") dX4_init_29 st_2 kn_79 ?_
  refine ev_iload_n (X := M_X4_init) (pc := 32) dX4_init_32 rfl ?_
  refine ev_ialoadE (X := M_X4_init) (pc := 33) dX4_init_33 h2 (by omega) (show _ = greF p from by rw [wr_off (by omega), wr_off (by omega), wr_off (by omega), wr_off (by omega)]; exact congrFun hV.2.1 _) ?_
  refine ev_putI (X := M_X4_init) (pc := 34) (ki := 4) dX4_init_34 fl_X4_31_3 hc hO (fun _ h q => by cases h; exact ⟨rfl, rfl⟩) (Or.inl rfl) rfl ?_
  refine ev_vret (X := M_X4_init) (pc := 37) dX4_init_37 rfl ?_
  exact ⟨rfl, rfl, rfl⟩
theorem c_iL_4 {γ : Gh} {K : Sk} {V : Mm} (h1 : K.1 1 = (1, 6)) (h2 : K.1 2 = (1, 6)) (hV : SV V) {c : Nat} (hc : 100 ≤ c) {kd p m : Int} (hp : 0 ≤ p ∧ p < 6) (hO : (K.1 c).1 = 4 + 10) : Call γ M_X4_init 1 0 0 [vR c, vI kd, vI p, vI m] K V (Rt none K (lwF V c kd p m)) := by
  refine call_of (by decide +kernel) (by intro v hv; simp only [List.mem_cons, List.not_mem_nil, or_false] at hv; rcases hv with rfl | rfl | rfl | rfl <;> exact fun q => by cases q) (Nat.le_of_ble_eq_true rfl) ?_
  refine ev_lsE (ls' := [_, _, _, _]) rfl ?_
  refine ev_aload_n (X := M_X4_init) (pc := 0) dX4_init_0 rfl ?_
  refine ev_objInit (X := M_X4_init) (pc := 1) dX4_init_1 kw_76 kw_29 kw_30 (by omega) (by decide) (Nat.le_of_ble_eq_true rfl) ?_
  refine ev_aload_n (X := M_X4_init) (pc := 4) dX4_init_4 rfl ?_
  refine ev_iload_n (X := M_X4_init) (pc := 5) dX4_init_5 rfl ?_
  refine ev_putI (X := M_X4_init) (pc := 6) (ki := 0) dX4_init_6 fl_X4_9_4 hc hO (fun _ h q => by cases h; exact ⟨rfl, rfl⟩) (Or.inl rfl) rfl ?_
  refine ev_aload_n (X := M_X4_init) (pc := 9) dX4_init_9 rfl ?_
  refine ev_iload_n (X := M_X4_init) (pc := 10) dX4_init_10 rfl ?_
  refine ev_putI (X := M_X4_init) (pc := 11) (ki := 1) dX4_init_11 fl_X4_15_4 hc hO (fun _ h q => by cases h; exact ⟨rfl, rfl⟩) (Or.inl rfl) rfl ?_
  refine ev_aload_n (X := M_X4_init) (pc := 14) dX4_init_14 rfl ?_
  refine ev_iload_n (X := M_X4_init) (pc := 15) dX4_init_15 rfl ?_
  refine ev_putI (X := M_X4_init) (pc := 16) (ki := 2) dX4_init_16 fl_X4_18_4 hc hO (fun _ h q => by cases h; exact ⟨rfl, rfl⟩) (Or.inl rfl) rfl ?_
  refine ev_aload_n (X := M_X4_init) (pc := 19) dX4_init_19 rfl ?_
  refine ev_getsN (X := M_X4_init) (pc := 20) (q := ("GreenPath", "LESSER", "[I", vR 1)) (host := "GreenPath") dX4_init_20 st_1 kn_77 ?_
  refine ev_iload_n (X := M_X4_init) (pc := 23) dX4_init_23 rfl ?_
  refine ev_ialoadE (X := M_X4_init) (pc := 24) dX4_init_24 h1 (by omega) (show _ = lesF p from by rw [wr_off (by omega), wr_off (by omega), wr_off (by omega)]; exact congrFun hV.1 _) ?_
  refine ev_putI (X := M_X4_init) (pc := 25) (ki := 3) dX4_init_25 fl_X4_25_4 hc hO (fun _ h q => by cases h; exact ⟨rfl, rfl⟩) (Or.inl rfl) rfl ?_
  refine ev_aload_n (X := M_X4_init) (pc := 28) dX4_init_28 rfl ?_
  refine ev_getsN (X := M_X4_init) (pc := 29) (q := ("GreenPath", "GREATER", "[I", vR 2)) (host := "GreenPath") dX4_init_29 st_2 kn_79 ?_
  refine ev_iload_n (X := M_X4_init) (pc := 32) dX4_init_32 rfl ?_
  refine ev_ialoadE (X := M_X4_init) (pc := 33) dX4_init_33 h2 (by omega) (show _ = greF p from by rw [wr_off (by omega), wr_off (by omega), wr_off (by omega), wr_off (by omega)]; exact congrFun hV.2.1 _) ?_
  refine ev_putI (X := M_X4_init) (pc := 34) (ki := 4) dX4_init_34 fl_X4_31_4 hc hO (fun _ h q => by cases h; exact ⟨rfl, rfl⟩) (Or.inl rfl) rfl ?_
  refine ev_vret (X := M_X4_init) (pc := 37) dX4_init_37 rfl ?_
  exact ⟨rfl, rfl, rfl⟩
theorem c_iL_7 {γ : Gh} {K : Sk} {V : Mm} (h1 : K.1 1 = (1, 6)) (h2 : K.1 2 = (1, 6)) (hV : SV V) {c : Nat} (hc : 100 ≤ c) {kd p m : Int} (hp : 0 ≤ p ∧ p < 6) (hO : (K.1 c).1 = 7 + 10) : Call γ M_X4_init 1 0 0 [vR c, vI kd, vI p, vI m] K V (Rt none K (lwF V c kd p m)) := by
  refine call_of (by decide +kernel) (by intro v hv; simp only [List.mem_cons, List.not_mem_nil, or_false] at hv; rcases hv with rfl | rfl | rfl | rfl <;> exact fun q => by cases q) (Nat.le_of_ble_eq_true rfl) ?_
  refine ev_lsE (ls' := [_, _, _, _]) rfl ?_
  refine ev_aload_n (X := M_X4_init) (pc := 0) dX4_init_0 rfl ?_
  refine ev_objInit (X := M_X4_init) (pc := 1) dX4_init_1 kw_76 kw_29 kw_30 (by omega) (by decide) (Nat.le_of_ble_eq_true rfl) ?_
  refine ev_aload_n (X := M_X4_init) (pc := 4) dX4_init_4 rfl ?_
  refine ev_iload_n (X := M_X4_init) (pc := 5) dX4_init_5 rfl ?_
  refine ev_putI (X := M_X4_init) (pc := 6) (ki := 0) dX4_init_6 fl_X4_9_7 hc hO (fun _ h q => by cases h; exact ⟨rfl, rfl⟩) (Or.inl rfl) rfl ?_
  refine ev_aload_n (X := M_X4_init) (pc := 9) dX4_init_9 rfl ?_
  refine ev_iload_n (X := M_X4_init) (pc := 10) dX4_init_10 rfl ?_
  refine ev_putI (X := M_X4_init) (pc := 11) (ki := 1) dX4_init_11 fl_X4_15_7 hc hO (fun _ h q => by cases h; exact ⟨rfl, rfl⟩) (Or.inl rfl) rfl ?_
  refine ev_aload_n (X := M_X4_init) (pc := 14) dX4_init_14 rfl ?_
  refine ev_iload_n (X := M_X4_init) (pc := 15) dX4_init_15 rfl ?_
  refine ev_putI (X := M_X4_init) (pc := 16) (ki := 2) dX4_init_16 fl_X4_18_7 hc hO (fun _ h q => by cases h; exact ⟨rfl, rfl⟩) (Or.inl rfl) rfl ?_
  refine ev_aload_n (X := M_X4_init) (pc := 19) dX4_init_19 rfl ?_
  refine ev_getsN (X := M_X4_init) (pc := 20) (q := ("GreenPath", "LESSER", "[I", vR 1)) (host := "GreenPath") dX4_init_20 st_1 kn_77 ?_
  refine ev_iload_n (X := M_X4_init) (pc := 23) dX4_init_23 rfl ?_
  refine ev_ialoadE (X := M_X4_init) (pc := 24) dX4_init_24 h1 (by omega) (show _ = lesF p from by rw [wr_off (by omega), wr_off (by omega), wr_off (by omega)]; exact congrFun hV.1 _) ?_
  refine ev_putI (X := M_X4_init) (pc := 25) (ki := 3) dX4_init_25 fl_X4_25_7 hc hO (fun _ h q => by cases h; exact ⟨rfl, rfl⟩) (Or.inl rfl) rfl ?_
  refine ev_aload_n (X := M_X4_init) (pc := 28) dX4_init_28 rfl ?_
  refine ev_getsN (X := M_X4_init) (pc := 29) (q := ("GreenPath", "GREATER", "[I", vR 2)) (host := "GreenPath") dX4_init_29 st_2 kn_79 ?_
  refine ev_iload_n (X := M_X4_init) (pc := 32) dX4_init_32 rfl ?_
  refine ev_ialoadE (X := M_X4_init) (pc := 33) dX4_init_33 h2 (by omega) (show _ = greF p from by rw [wr_off (by omega), wr_off (by omega), wr_off (by omega), wr_off (by omega)]; exact congrFun hV.2.1 _) ?_
  refine ev_putI (X := M_X4_init) (pc := 34) (ki := 4) dX4_init_34 fl_X4_31_7 hc hO (fun _ h q => by cases h; exact ⟨rfl, rfl⟩) (Or.inl rfl) rfl ?_
  refine ev_vret (X := M_X4_init) (pc := 37) dX4_init_37 rfl ?_
  exact ⟨rfl, rfl, rfl⟩
theorem c_iL_9 {γ : Gh} {K : Sk} {V : Mm} (h1 : K.1 1 = (1, 6)) (h2 : K.1 2 = (1, 6)) (hV : SV V) {c : Nat} (hc : 100 ≤ c) {kd p m : Int} (hp : 0 ≤ p ∧ p < 6) (hO : (K.1 c).1 = 9 + 10) : Call γ M_X4_init 1 0 0 [vR c, vI kd, vI p, vI m] K V (Rt none K (lwF V c kd p m)) := by
  refine call_of (by decide +kernel) (by intro v hv; simp only [List.mem_cons, List.not_mem_nil, or_false] at hv; rcases hv with rfl | rfl | rfl | rfl <;> exact fun q => by cases q) (Nat.le_of_ble_eq_true rfl) ?_
  refine ev_lsE (ls' := [_, _, _, _]) rfl ?_
  refine ev_aload_n (X := M_X4_init) (pc := 0) dX4_init_0 rfl ?_
  refine ev_objInit (X := M_X4_init) (pc := 1) dX4_init_1 kw_76 kw_29 kw_30 (by omega) (by decide) (Nat.le_of_ble_eq_true rfl) ?_
  refine ev_aload_n (X := M_X4_init) (pc := 4) dX4_init_4 rfl ?_
  refine ev_iload_n (X := M_X4_init) (pc := 5) dX4_init_5 rfl ?_
  refine ev_putI (X := M_X4_init) (pc := 6) (ki := 0) dX4_init_6 fl_X4_9_9 hc hO (fun _ h q => by cases h; exact ⟨rfl, rfl⟩) (Or.inl rfl) rfl ?_
  refine ev_aload_n (X := M_X4_init) (pc := 9) dX4_init_9 rfl ?_
  refine ev_iload_n (X := M_X4_init) (pc := 10) dX4_init_10 rfl ?_
  refine ev_putI (X := M_X4_init) (pc := 11) (ki := 1) dX4_init_11 fl_X4_15_9 hc hO (fun _ h q => by cases h; exact ⟨rfl, rfl⟩) (Or.inl rfl) rfl ?_
  refine ev_aload_n (X := M_X4_init) (pc := 14) dX4_init_14 rfl ?_
  refine ev_iload_n (X := M_X4_init) (pc := 15) dX4_init_15 rfl ?_
  refine ev_putI (X := M_X4_init) (pc := 16) (ki := 2) dX4_init_16 fl_X4_18_9 hc hO (fun _ h q => by cases h; exact ⟨rfl, rfl⟩) (Or.inl rfl) rfl ?_
  refine ev_aload_n (X := M_X4_init) (pc := 19) dX4_init_19 rfl ?_
  refine ev_getsN (X := M_X4_init) (pc := 20) (q := ("GreenPath", "LESSER", "[I", vR 1)) (host := "GreenPath") dX4_init_20 st_1 kn_77 ?_
  refine ev_iload_n (X := M_X4_init) (pc := 23) dX4_init_23 rfl ?_
  refine ev_ialoadE (X := M_X4_init) (pc := 24) dX4_init_24 h1 (by omega) (show _ = lesF p from by rw [wr_off (by omega), wr_off (by omega), wr_off (by omega)]; exact congrFun hV.1 _) ?_
  refine ev_putI (X := M_X4_init) (pc := 25) (ki := 3) dX4_init_25 fl_X4_25_9 hc hO (fun _ h q => by cases h; exact ⟨rfl, rfl⟩) (Or.inl rfl) rfl ?_
  refine ev_aload_n (X := M_X4_init) (pc := 28) dX4_init_28 rfl ?_
  refine ev_getsN (X := M_X4_init) (pc := 29) (q := ("GreenPath", "GREATER", "[I", vR 2)) (host := "GreenPath") dX4_init_29 st_2 kn_79 ?_
  refine ev_iload_n (X := M_X4_init) (pc := 32) dX4_init_32 rfl ?_
  refine ev_ialoadE (X := M_X4_init) (pc := 33) dX4_init_33 h2 (by omega) (show _ = greF p from by rw [wr_off (by omega), wr_off (by omega), wr_off (by omega), wr_off (by omega)]; exact congrFun hV.2.1 _) ?_
  refine ev_putI (X := M_X4_init) (pc := 34) (ki := 4) dX4_init_34 fl_X4_31_9 hc hO (fun _ h q => by cases h; exact ⟨rfl, rfl⟩) (Or.inl rfl) rfl ?_
  refine ev_vret (X := M_X4_init) (pc := 37) dX4_init_37 rfl ?_
  exact ⟨rfl, rfl, rfl⟩
theorem c_iL_10 {γ : Gh} {K : Sk} {V : Mm} (h1 : K.1 1 = (1, 6)) (h2 : K.1 2 = (1, 6)) (hV : SV V) {c : Nat} (hc : 100 ≤ c) {kd p m : Int} (hp : 0 ≤ p ∧ p < 6) (hO : (K.1 c).1 = 10 + 10) : Call γ M_X4_init 1 0 0 [vR c, vI kd, vI p, vI m] K V (Rt none K (lwF V c kd p m)) := by
  refine call_of (by decide +kernel) (by intro v hv; simp only [List.mem_cons, List.not_mem_nil, or_false] at hv; rcases hv with rfl | rfl | rfl | rfl <;> exact fun q => by cases q) (Nat.le_of_ble_eq_true rfl) ?_
  refine ev_lsE (ls' := [_, _, _, _]) rfl ?_
  refine ev_aload_n (X := M_X4_init) (pc := 0) dX4_init_0 rfl ?_
  refine ev_objInit (X := M_X4_init) (pc := 1) dX4_init_1 kw_76 kw_29 kw_30 (by omega) (by decide) (Nat.le_of_ble_eq_true rfl) ?_
  refine ev_aload_n (X := M_X4_init) (pc := 4) dX4_init_4 rfl ?_
  refine ev_iload_n (X := M_X4_init) (pc := 5) dX4_init_5 rfl ?_
  refine ev_putI (X := M_X4_init) (pc := 6) (ki := 0) dX4_init_6 fl_X4_9_10 hc hO (fun _ h q => by cases h; exact ⟨rfl, rfl⟩) (Or.inl rfl) rfl ?_
  refine ev_aload_n (X := M_X4_init) (pc := 9) dX4_init_9 rfl ?_
  refine ev_iload_n (X := M_X4_init) (pc := 10) dX4_init_10 rfl ?_
  refine ev_putI (X := M_X4_init) (pc := 11) (ki := 1) dX4_init_11 fl_X4_15_10 hc hO (fun _ h q => by cases h; exact ⟨rfl, rfl⟩) (Or.inl rfl) rfl ?_
  refine ev_aload_n (X := M_X4_init) (pc := 14) dX4_init_14 rfl ?_
  refine ev_iload_n (X := M_X4_init) (pc := 15) dX4_init_15 rfl ?_
  refine ev_putI (X := M_X4_init) (pc := 16) (ki := 2) dX4_init_16 fl_X4_18_10 hc hO (fun _ h q => by cases h; exact ⟨rfl, rfl⟩) (Or.inl rfl) rfl ?_
  refine ev_aload_n (X := M_X4_init) (pc := 19) dX4_init_19 rfl ?_
  refine ev_getsN (X := M_X4_init) (pc := 20) (q := ("GreenPath", "LESSER", "[I", vR 1)) (host := "GreenPath") dX4_init_20 st_1 kn_77 ?_
  refine ev_iload_n (X := M_X4_init) (pc := 23) dX4_init_23 rfl ?_
  refine ev_ialoadE (X := M_X4_init) (pc := 24) dX4_init_24 h1 (by omega) (show _ = lesF p from by rw [wr_off (by omega), wr_off (by omega), wr_off (by omega)]; exact congrFun hV.1 _) ?_
  refine ev_putI (X := M_X4_init) (pc := 25) (ki := 3) dX4_init_25 fl_X4_25_10 hc hO (fun _ h q => by cases h; exact ⟨rfl, rfl⟩) (Or.inl rfl) rfl ?_
  refine ev_aload_n (X := M_X4_init) (pc := 28) dX4_init_28 rfl ?_
  refine ev_getsN (X := M_X4_init) (pc := 29) (q := ("GreenPath", "GREATER", "[I", vR 2)) (host := "GreenPath") dX4_init_29 st_2 kn_79 ?_
  refine ev_iload_n (X := M_X4_init) (pc := 32) dX4_init_32 rfl ?_
  refine ev_ialoadE (X := M_X4_init) (pc := 33) dX4_init_33 h2 (by omega) (show _ = greF p from by rw [wr_off (by omega), wr_off (by omega), wr_off (by omega), wr_off (by omega)]; exact congrFun hV.2.1 _) ?_
  refine ev_putI (X := M_X4_init) (pc := 34) (ki := 4) dX4_init_34 fl_X4_31_10 hc hO (fun _ h q => by cases h; exact ⟨rfl, rfl⟩) (Or.inl rfl) rfl ?_
  refine ev_vret (X := M_X4_init) (pc := 37) dX4_init_37 rfl ?_
  exact ⟨rfl, rfl, rfl⟩
theorem c_iT_9 {γ : Gh} {K : Sk} {V : Mm} (h1 : K.1 1 = (1, 6)) (h2 : K.1 2 = (1, 6)) (hV : SV V) {c : Nat} (hc : 100 ≤ c) {kd p m : Int} (hp : 0 ≤ p ∧ p < 6) (hO : (K.1 c).1 = 9 + 10) : Call γ M_X9_init 2 0 0 [vR c, vI kd, vI p, vI m] K V (Rt none K (lwF V c kd p m)) := by
  refine call_of (by decide +kernel) (by intro v hv; simp only [List.mem_cons, List.not_mem_nil, or_false] at hv; rcases hv with rfl | rfl | rfl | rfl <;> exact fun q => by cases q) (Nat.le_of_ble_eq_true rfl) ?_
  refine ev_lsE (ls' := [_, _, _, _]) rfl ?_
  refine ev_aload_n (X := M_X9_init) (pc := 0) dX9_init_0 rfl ?_
  refine ev_iload_n (X := M_X9_init) (pc := 1) dX9_init_1 rfl ?_
  refine ev_iload_n (X := M_X9_init) (pc := 2) dX9_init_2 rfl ?_
  refine ev_iload_n (X := M_X9_init) (pc := 3) dX9_init_3 rfl ?_
  refine ev_initV (X := M_X9_init) (Y := M_X4_init) (pc := 4) dX9_init_4 mk_X4_init rfl rfl kw_73 kw_74 (by omega) (c_iL_9 h1 h2 hV hc hp hO) rfl (by decide) rfl (Nat.le_of_ble_eq_true rfl) (Nat.zero_add _) (Nat.zero_add _) ?_
  refine ev_vret (X := M_X9_init) (pc := 7) dX9_init_7 rfl ?_
  exact ⟨rfl, rfl, rfl⟩
theorem c_iT_0 {γ : Gh} {K : Sk} {V : Mm} (h1 : K.1 1 = (1, 6)) (h2 : K.1 2 = (1, 6)) (hV : SV V) {c : Nat} (hc : 100 ≤ c) {kd p m : Int} (hp : 0 ≤ p ∧ p < 6) (hO : (K.1 c).1 = 0 + 10) : Call γ M_X9_init 2 0 0 [vR c, vI kd, vI p, vI m] K V (Rt none K (lwF V c kd p m)) := by
  refine call_of (by decide +kernel) (by intro v hv; simp only [List.mem_cons, List.not_mem_nil, or_false] at hv; rcases hv with rfl | rfl | rfl | rfl <;> exact fun q => by cases q) (Nat.le_of_ble_eq_true rfl) ?_
  refine ev_lsE (ls' := [_, _, _, _]) rfl ?_
  refine ev_aload_n (X := M_X9_init) (pc := 0) dX9_init_0 rfl ?_
  refine ev_iload_n (X := M_X9_init) (pc := 1) dX9_init_1 rfl ?_
  refine ev_iload_n (X := M_X9_init) (pc := 2) dX9_init_2 rfl ?_
  refine ev_iload_n (X := M_X9_init) (pc := 3) dX9_init_3 rfl ?_
  refine ev_initV (X := M_X9_init) (Y := M_X4_init) (pc := 4) dX9_init_4 mk_X4_init rfl rfl kw_73 kw_74 (by omega) (c_iL_0 h1 h2 hV hc hp hO) rfl (by decide) rfl (Nat.le_of_ble_eq_true rfl) (Nat.zero_add _) (Nat.zero_add _) ?_
  refine ev_vret (X := M_X9_init) (pc := 7) dX9_init_7 rfl ?_
  exact ⟨rfl, rfl, rfl⟩
theorem c_iE_1 {γ : Gh} {K : Sk} {V : Mm} (h1 : K.1 1 = (1, 6)) (h2 : K.1 2 = (1, 6)) (hV : SV V) {c : Nat} (hc : 100 ≤ c) {kd p m : Int} (hp : 0 ≤ p ∧ p < 6) (hO : (K.1 c).1 = 1 + 10) : Call γ M_X1_init 2 0 0 [vR c, vI kd, vI p, vI m] K V (Rt none K (lwF V c kd p m)) := by
  refine call_of (by decide +kernel) (by intro v hv; simp only [List.mem_cons, List.not_mem_nil, or_false] at hv; rcases hv with rfl | rfl | rfl | rfl <;> exact fun q => by cases q) (Nat.le_of_ble_eq_true rfl) ?_
  refine ev_lsE (ls' := [_, _, _, _]) rfl ?_
  refine ev_aload_n (X := M_X1_init) (pc := 0) dX1_init_0 rfl ?_
  refine ev_iload_n (X := M_X1_init) (pc := 1) dX1_init_1 rfl ?_
  refine ev_iload_n (X := M_X1_init) (pc := 2) dX1_init_2 rfl ?_
  refine ev_iload_n (X := M_X1_init) (pc := 3) dX1_init_3 rfl ?_
  refine ev_initV (X := M_X1_init) (Y := M_X4_init) (pc := 4) dX1_init_4 mk_X4_init rfl rfl kw_349 kw_74 (by omega) (c_iL_1 h1 h2 hV hc hp hO) rfl (by decide) rfl (Nat.le_of_ble_eq_true rfl) (Nat.zero_add _) (Nat.zero_add _) ?_
  refine ev_vret (X := M_X1_init) (pc := 7) dX1_init_7 rfl ?_
  exact ⟨rfl, rfl, rfl⟩
theorem c_iE_3 {γ : Gh} {K : Sk} {V : Mm} (h1 : K.1 1 = (1, 6)) (h2 : K.1 2 = (1, 6)) (hV : SV V) {c : Nat} (hc : 100 ≤ c) {kd p m : Int} (hp : 0 ≤ p ∧ p < 6) (hO : (K.1 c).1 = 3 + 10) : Call γ M_X1_init 2 0 0 [vR c, vI kd, vI p, vI m] K V (Rt none K (lwF V c kd p m)) := by
  refine call_of (by decide +kernel) (by intro v hv; simp only [List.mem_cons, List.not_mem_nil, or_false] at hv; rcases hv with rfl | rfl | rfl | rfl <;> exact fun q => by cases q) (Nat.le_of_ble_eq_true rfl) ?_
  refine ev_lsE (ls' := [_, _, _, _]) rfl ?_
  refine ev_aload_n (X := M_X1_init) (pc := 0) dX1_init_0 rfl ?_
  refine ev_iload_n (X := M_X1_init) (pc := 1) dX1_init_1 rfl ?_
  refine ev_iload_n (X := M_X1_init) (pc := 2) dX1_init_2 rfl ?_
  refine ev_iload_n (X := M_X1_init) (pc := 3) dX1_init_3 rfl ?_
  refine ev_initV (X := M_X1_init) (Y := M_X4_init) (pc := 4) dX1_init_4 mk_X4_init rfl rfl kw_349 kw_74 (by omega) (c_iL_3 h1 h2 hV hc hp hO) rfl (by decide) rfl (Nat.le_of_ble_eq_true rfl) (Nat.zero_add _) (Nat.zero_add _) ?_
  refine ev_vret (X := M_X1_init) (pc := 7) dX1_init_7 rfl ?_
  exact ⟨rfl, rfl, rfl⟩
theorem c_iS_7 {γ : Gh} {K : Sk} {V : Mm} (h1 : K.1 1 = (1, 6)) (h2 : K.1 2 = (1, 6)) (hV : SV V) {c : Nat} (hc : 100 ≤ c) {kd p m : Int} (hp : 0 ≤ p ∧ p < 6) (hO : (K.1 c).1 = 7 + 10) : Call γ M_X7_init 2 0 0 [vR c, vI kd, vI p, vI m] K V (Rt none K (lwF V c kd p m)) := by
  refine call_of (by decide +kernel) (by intro v hv; simp only [List.mem_cons, List.not_mem_nil, or_false] at hv; rcases hv with rfl | rfl | rfl | rfl <;> exact fun q => by cases q) (Nat.le_of_ble_eq_true rfl) ?_
  refine ev_lsE (ls' := [_, _, _, _]) rfl ?_
  refine ev_aload_n (X := M_X7_init) (pc := 0) dX7_init_0 rfl ?_
  refine ev_iload_n (X := M_X7_init) (pc := 1) dX7_init_1 rfl ?_
  refine ev_iload_n (X := M_X7_init) (pc := 2) dX7_init_2 rfl ?_
  refine ev_iload_n (X := M_X7_init) (pc := 3) dX7_init_3 rfl ?_
  refine ev_initV (X := M_X7_init) (Y := M_X4_init) (pc := 4) dX7_init_4 mk_X4_init rfl rfl kw_361 kw_74 (by omega) (c_iL_7 h1 h2 hV hc hp hO) rfl (by decide) rfl (Nat.le_of_ble_eq_true rfl) (Nat.zero_add _) (Nat.zero_add _) ?_
  refine ev_vret (X := M_X7_init) (pc := 7) dX7_init_7 rfl ?_
  exact ⟨rfl, rfl, rfl⟩
theorem c_iS_10 {γ : Gh} {K : Sk} {V : Mm} (h1 : K.1 1 = (1, 6)) (h2 : K.1 2 = (1, 6)) (hV : SV V) {c : Nat} (hc : 100 ≤ c) {kd p m : Int} (hp : 0 ≤ p ∧ p < 6) (hO : (K.1 c).1 = 10 + 10) : Call γ M_X7_init 2 0 0 [vR c, vI kd, vI p, vI m] K V (Rt none K (lwF V c kd p m)) := by
  refine call_of (by decide +kernel) (by intro v hv; simp only [List.mem_cons, List.not_mem_nil, or_false] at hv; rcases hv with rfl | rfl | rfl | rfl <;> exact fun q => by cases q) (Nat.le_of_ble_eq_true rfl) ?_
  refine ev_lsE (ls' := [_, _, _, _]) rfl ?_
  refine ev_aload_n (X := M_X7_init) (pc := 0) dX7_init_0 rfl ?_
  refine ev_iload_n (X := M_X7_init) (pc := 1) dX7_init_1 rfl ?_
  refine ev_iload_n (X := M_X7_init) (pc := 2) dX7_init_2 rfl ?_
  refine ev_iload_n (X := M_X7_init) (pc := 3) dX7_init_3 rfl ?_
  refine ev_initV (X := M_X7_init) (Y := M_X4_init) (pc := 4) dX7_init_4 mk_X4_init rfl rfl kw_361 kw_74 (by omega) (c_iL_10 h1 h2 hV hc hp hO) rfl (by decide) rfl (Nat.le_of_ble_eq_true rfl) (Nat.zero_add _) (Nat.zero_add _) ?_
  refine ev_vret (X := M_X7_init) (pc := 7) dX7_init_7 rfl ?_
  exact ⟨rfl, rfl, rfl⟩
theorem c_iC {γ : Gh} {K : Sk} {V : Mm} (h1 : K.1 1 = (1, 6)) (h2 : K.1 2 = (1, 6)) (hV : SV V) {c : Nat} (hc : 100 ≤ c) {kd p m : Int} (hp : 0 ≤ p ∧ p < 6) (hO : (K.1 c).1 = 0 + 10) : Call γ M_X0_init 3 0 0 [vR c, vI kd, vI p, vI m] K V (Rt none K (lwF V c kd p m)) := by
  refine call_of (by decide +kernel) (by intro v hv; simp only [List.mem_cons, List.not_mem_nil, or_false] at hv; rcases hv with rfl | rfl | rfl | rfl <;> exact fun q => by cases q) (Nat.le_of_ble_eq_true rfl) ?_
  refine ev_lsE (ls' := [_, _, _, _]) rfl ?_
  refine ev_aload_n (X := M_X0_init) (pc := 0) dX0_init_0 rfl ?_
  refine ev_iload_n (X := M_X0_init) (pc := 1) dX0_init_1 rfl ?_
  refine ev_iload_n (X := M_X0_init) (pc := 2) dX0_init_2 rfl ?_
  refine ev_iload_n (X := M_X0_init) (pc := 3) dX0_init_3 rfl ?_
  refine ev_initV (X := M_X0_init) (Y := M_X9_init) (pc := 4) dX0_init_4 mk_X9_init rfl rfl kw_372 kw_71 (by omega) (c_iT_0 h1 h2 hV hc hp hO) rfl (by decide) rfl (Nat.le_of_ble_eq_true rfl) (Nat.zero_add _) (Nat.zero_add _) ?_
  refine ev_vret (X := M_X0_init) (pc := 7) dX0_init_7 rfl ?_
  exact ⟨rfl, rfl, rfl⟩
theorem c_iJ {γ : Gh} {K : Sk} {V : Mm} (h1 : K.1 1 = (1, 6)) (h2 : K.1 2 = (1, 6)) (hV : SV V) {c : Nat} (hc : 100 ≤ c) {kd p m : Int} (hp : 0 ≤ p ∧ p < 6) (hO : (K.1 c).1 = 3 + 10) : Call γ M_X3_init 3 0 0 [vR c, vI kd, vI p, vI m] K V (Rt none K (lwF V c kd p m)) := by
  refine call_of (by decide +kernel) (by intro v hv; simp only [List.mem_cons, List.not_mem_nil, or_false] at hv; rcases hv with rfl | rfl | rfl | rfl <;> exact fun q => by cases q) (Nat.le_of_ble_eq_true rfl) ?_
  refine ev_lsE (ls' := [_, _, _, _]) rfl ?_
  refine ev_aload_n (X := M_X3_init) (pc := 0) dX3_init_0 rfl ?_
  refine ev_iload_n (X := M_X3_init) (pc := 1) dX3_init_1 rfl ?_
  refine ev_iload_n (X := M_X3_init) (pc := 2) dX3_init_2 rfl ?_
  refine ev_iload_n (X := M_X3_init) (pc := 3) dX3_init_3 rfl ?_
  refine ev_initV (X := M_X3_init) (Y := M_X1_init) (pc := 4) dX3_init_4 mk_X1_init rfl rfl kw_383 kw_347 (by omega) (c_iE_3 h1 h2 hV hc hp hO) rfl (by decide) rfl (Nat.le_of_ble_eq_true rfl) (Nat.zero_add _) (Nat.zero_add _) ?_
  refine ev_vret (X := M_X3_init) (pc := 7) dX3_init_7 rfl ?_
  exact ⟨rfl, rfl, rfl⟩
theorem c_iO {γ : Gh} {K : Sk} {V : Mm} (h1 : K.1 1 = (1, 6)) (h2 : K.1 2 = (1, 6)) (hV : SV V) {c : Nat} (hc : 100 ≤ c) {kd p m : Int} (hp : 0 ≤ p ∧ p < 6) (hO : (K.1 c).1 = 10 + 10) : Call γ M_X10_init 3 0 0 [vR c, vI kd, vI p, vI m] K V (Rt none K (lwF V c kd p m)) := by
  refine call_of (by decide +kernel) (by intro v hv; simp only [List.mem_cons, List.not_mem_nil, or_false] at hv; rcases hv with rfl | rfl | rfl | rfl <;> exact fun q => by cases q) (Nat.le_of_ble_eq_true rfl) ?_
  refine ev_lsE (ls' := [_, _, _, _]) rfl ?_
  refine ev_aload_n (X := M_X10_init) (pc := 0) dX10_init_0 rfl ?_
  refine ev_iload_n (X := M_X10_init) (pc := 1) dX10_init_1 rfl ?_
  refine ev_iload_n (X := M_X10_init) (pc := 2) dX10_init_2 rfl ?_
  refine ev_iload_n (X := M_X10_init) (pc := 3) dX10_init_3 rfl ?_
  refine ev_initV (X := M_X10_init) (Y := M_X7_init) (pc := 4) dX10_init_4 mk_X7_init rfl rfl kw_394 kw_359 (by omega) (c_iS_10 h1 h2 hV hc hp hO) rfl (by decide) rfl (Nat.le_of_ble_eq_true rfl) (Nat.zero_add _) (Nat.zero_add _) ?_
  refine ev_vret (X := M_X10_init) (pc := 7) dX10_init_7 rfl ?_
  exact ⟨rfl, rfl, rfl⟩
theorem nwK_new {K : Sk} {k n : Nat} : (nwK K k n).1 K.2.2 = (k, n) := by simp [nwK]
theorem nwK_old {K : Sk} {k n c : Nat} (h : c ≠ K.2.2) : (nwK K k n).1 c = K.1 c := by simp [nwK, h]
theorem nwK_ref {K : Sk} {k n c : Nat} {j : Int} (h : c ≠ K.2.2) : (nwK K k n).2.1 c j = K.2.1 c j := by simp [nwK, setr, h]
theorem nwV_old {K : Sk} {V : Mm} {c : Nat} (h : c ≠ K.2.2) : nwV K V c = V c := setr_ne h
theorem c_newLaw {γ : Gh} {K : Sk} {V : Mm} (hL : Lay K) (hV : SV V) {kd p m : Int} (hk : 0 ≤ kd ∧ kd ≤ 6) (hp : 0 ≤ p ∧ p < 6) : Call γ M_X11_newLaw 4 1 5 [vI kd, vI p, vI m] K V (Rt (some (vR K.2.2)) (nwK K (lcl kd + 10) 0) (lwF (nwV K V) K.2.2 kd p m)) := by
  refine call_of (by decide +kernel) (by intro v hv; simp only [List.mem_cons, List.not_mem_nil, or_false] at hv; rcases hv with rfl | rfl | rfl <;> exact fun q => by cases q) (Nat.le_of_ble_eq_true rfl) ?_
  refine ev_lsE (ls' := [_, _, _]) rfl ?_
  have hN : 178 ≤ K.2.2 := hL.2.2.2.2
  have h1 : ∀ k, (nwK K k 0).1 1 = (1, 6) := fun k => by rw [nwK_old (by omega)]; exact lS_1 hL
  have h2 : ∀ k, (nwK K k 0).1 2 = (1, 6) := fun k => by rw [nwK_old (by omega)]; exact lS_2 hL
  have hV1 : SV (nwV K V) := by unfold SV; rw [nwV_old (by omega), nwV_old (by omega), nwV_old (by omega)]; exact hV
  refine ev_iload_n (X := M_X11_newLaw) (pc := 0) dX11_newLaw_0 rfl ?_
  rcases (show kd = 1 ∨ kd = 2 ∨ kd = 3 ∨ kd = 4 ∨ kd = 5 ∨ kd = 6 ∨ (kd < 1 ∨ 6 < kd) by omega) with g1 | g1 | g1 | g1 | g1 | g1 | g1
  · refine ev_tableIn (X := M_X11_newLaw) (pc := 1) (off := 39) (tgt := 40) dX11_newLaw_1 (by omega) (by omega) (by omega) (by rw [g1]; rfl) (by decide) ?_
    refine ev_new (X := M_X11_newLaw) (pc := 40) (ci := 9) dX11_newLaw_40 rfl kw_342 kw_69 kw_7 ?_
    refine ev_dup (X := M_X11_newLaw) (pc := 43) dX11_newLaw_43 (fun _ q => by cases q) ?_
    refine ev_iconst (X := M_X11_newLaw) (pc := 44) dX11_newLaw_44 ?_
    refine ev_iload_n (X := M_X11_newLaw) (pc := 45) dX11_newLaw_45 rfl ?_
    refine ev_iload_n (X := M_X11_newLaw) (pc := 46) dX11_newLaw_46 rfl ?_
    refine ev_initV (X := M_X11_newLaw) (Y := M_X9_init) (pc := 47) dX11_newLaw_47 mk_X9_init rfl rfl kw_343 kw_71 (by omega) (c_iT_9 (h1 _) (h2 _) hV1 (by omega) hp (by rw [nwK_new])) rfl (by decide) rfl (Nat.le_of_ble_eq_true rfl) (Nat.zero_add _) (Nat.zero_add _) ?_
    refine ev_aret (X := M_X11_newLaw) (pc := 50) dX11_newLaw_50 rfl (Or.inl ⟨_, rfl⟩) ?_
    first
      | (rw [g1]; exact ⟨rfl, rfl, rfl⟩)
      | (have hz : kd = 0 := by omega
         rw [hz]; exact ⟨rfl, rfl, rfl⟩)
  · refine ev_tableIn (X := M_X11_newLaw) (pc := 1) (off := 50) (tgt := 51) dX11_newLaw_1 (by omega) (by omega) (by omega) (by rw [g1]; rfl) (by decide) ?_
    refine ev_new (X := M_X11_newLaw) (pc := 51) (ci := 1) dX11_newLaw_51 rfl kw_344 kw_345 kw_11 ?_
    refine ev_dup (X := M_X11_newLaw) (pc := 54) dX11_newLaw_54 (fun _ q => by cases q) ?_
    refine ev_iconst (X := M_X11_newLaw) (pc := 55) dX11_newLaw_55 ?_
    refine ev_iload_n (X := M_X11_newLaw) (pc := 56) dX11_newLaw_56 rfl ?_
    refine ev_iload_n (X := M_X11_newLaw) (pc := 57) dX11_newLaw_57 rfl ?_
    refine ev_initV (X := M_X11_newLaw) (Y := M_X1_init) (pc := 58) dX11_newLaw_58 mk_X1_init rfl rfl kw_346 kw_347 (by omega) (c_iE_1 (h1 _) (h2 _) hV1 (by omega) hp (by rw [nwK_new])) rfl (by decide) rfl (Nat.le_of_ble_eq_true rfl) (Nat.zero_add _) (Nat.zero_add _) ?_
    refine ev_aret (X := M_X11_newLaw) (pc := 61) dX11_newLaw_61 rfl (Or.inl ⟨_, rfl⟩) ?_
    first
      | (rw [g1]; exact ⟨rfl, rfl, rfl⟩)
      | (have hz : kd = 0 := by omega
         rw [hz]; exact ⟨rfl, rfl, rfl⟩)
  · refine ev_tableIn (X := M_X11_newLaw) (pc := 1) (off := 61) (tgt := 62) dX11_newLaw_1 (by omega) (by omega) (by omega) (by rw [g1]; rfl) (by decide) ?_
    refine ev_new (X := M_X11_newLaw) (pc := 62) (ci := 7) dX11_newLaw_62 rfl kw_356 kw_357 kw_12 ?_
    refine ev_dup (X := M_X11_newLaw) (pc := 65) dX11_newLaw_65 (fun _ q => by cases q) ?_
    refine ev_iconst (X := M_X11_newLaw) (pc := 66) dX11_newLaw_66 ?_
    refine ev_iload_n (X := M_X11_newLaw) (pc := 67) dX11_newLaw_67 rfl ?_
    refine ev_iload_n (X := M_X11_newLaw) (pc := 68) dX11_newLaw_68 rfl ?_
    refine ev_initV (X := M_X11_newLaw) (Y := M_X7_init) (pc := 69) dX11_newLaw_69 mk_X7_init rfl rfl kw_358 kw_359 (by omega) (c_iS_7 (h1 _) (h2 _) hV1 (by omega) hp (by rw [nwK_new])) rfl (by decide) rfl (Nat.le_of_ble_eq_true rfl) (Nat.zero_add _) (Nat.zero_add _) ?_
    refine ev_aret (X := M_X11_newLaw) (pc := 72) dX11_newLaw_72 rfl (Or.inl ⟨_, rfl⟩) ?_
    first
      | (rw [g1]; exact ⟨rfl, rfl, rfl⟩)
      | (have hz : kd = 0 := by omega
         rw [hz]; exact ⟨rfl, rfl, rfl⟩)
  · refine ev_tableIn (X := M_X11_newLaw) (pc := 1) (off := 72) (tgt := 73) dX11_newLaw_1 (by omega) (by omega) (by omega) (by rw [g1]; rfl) (by decide) ?_
    refine ev_new (X := M_X11_newLaw) (pc := 73) (ci := 0) dX11_newLaw_73 rfl kw_367 kw_368 kw_13 ?_
    refine ev_dup (X := M_X11_newLaw) (pc := 76) dX11_newLaw_76 (fun _ q => by cases q) ?_
    refine ev_iconst (X := M_X11_newLaw) (pc := 77) dX11_newLaw_77 ?_
    refine ev_iload_n (X := M_X11_newLaw) (pc := 78) dX11_newLaw_78 rfl ?_
    refine ev_iload_n (X := M_X11_newLaw) (pc := 79) dX11_newLaw_79 rfl ?_
    refine ev_initV (X := M_X11_newLaw) (Y := M_X0_init) (pc := 80) dX11_newLaw_80 mk_X0_init rfl rfl kw_369 kw_370 (by omega) (c_iC (h1 _) (h2 _) hV1 (by omega) hp (by rw [nwK_new])) rfl (by decide) rfl (Nat.le_of_ble_eq_true rfl) (Nat.zero_add _) (Nat.zero_add _) ?_
    refine ev_aret (X := M_X11_newLaw) (pc := 83) dX11_newLaw_83 rfl (Or.inl ⟨_, rfl⟩) ?_
    first
      | (rw [g1]; exact ⟨rfl, rfl, rfl⟩)
      | (have hz : kd = 0 := by omega
         rw [hz]; exact ⟨rfl, rfl, rfl⟩)
  · refine ev_tableIn (X := M_X11_newLaw) (pc := 1) (off := 83) (tgt := 84) dX11_newLaw_1 (by omega) (by omega) (by omega) (by rw [g1]; rfl) (by decide) ?_
    refine ev_new (X := M_X11_newLaw) (pc := 84) (ci := 3) dX11_newLaw_84 rfl kw_378 kw_379 kw_14 ?_
    refine ev_dup (X := M_X11_newLaw) (pc := 87) dX11_newLaw_87 (fun _ q => by cases q) ?_
    refine ev_iconst (X := M_X11_newLaw) (pc := 88) dX11_newLaw_88 ?_
    refine ev_iload_n (X := M_X11_newLaw) (pc := 89) dX11_newLaw_89 rfl ?_
    refine ev_iload_n (X := M_X11_newLaw) (pc := 90) dX11_newLaw_90 rfl ?_
    refine ev_initV (X := M_X11_newLaw) (Y := M_X3_init) (pc := 91) dX11_newLaw_91 mk_X3_init rfl rfl kw_380 kw_381 (by omega) (c_iJ (h1 _) (h2 _) hV1 (by omega) hp (by rw [nwK_new])) rfl (by decide) rfl (Nat.le_of_ble_eq_true rfl) (Nat.zero_add _) (Nat.zero_add _) ?_
    refine ev_aret (X := M_X11_newLaw) (pc := 94) dX11_newLaw_94 rfl (Or.inl ⟨_, rfl⟩) ?_
    first
      | (rw [g1]; exact ⟨rfl, rfl, rfl⟩)
      | (have hz : kd = 0 := by omega
         rw [hz]; exact ⟨rfl, rfl, rfl⟩)
  · refine ev_tableIn (X := M_X11_newLaw) (pc := 1) (off := 94) (tgt := 95) dX11_newLaw_1 (by omega) (by omega) (by omega) (by rw [g1]; rfl) (by decide) ?_
    refine ev_new (X := M_X11_newLaw) (pc := 95) (ci := 10) dX11_newLaw_95 rfl kw_389 kw_390 kw_15 ?_
    refine ev_dup (X := M_X11_newLaw) (pc := 98) dX11_newLaw_98 (fun _ q => by cases q) ?_
    refine ev_bipush (X := M_X11_newLaw) (pc := 99) dX11_newLaw_99 (by decide) ?_
    refine ev_iload_n (X := M_X11_newLaw) (pc := 101) dX11_newLaw_101 rfl ?_
    refine ev_iload_n (X := M_X11_newLaw) (pc := 102) dX11_newLaw_102 rfl ?_
    refine ev_initV (X := M_X11_newLaw) (Y := M_X10_init) (pc := 103) dX11_newLaw_103 mk_X10_init rfl rfl kw_391 kw_392 (by omega) (c_iO (h1 _) (h2 _) hV1 (by omega) hp (by rw [nwK_new])) rfl (by decide) rfl (Nat.le_of_ble_eq_true rfl) (Nat.zero_add _) (Nat.zero_add _) ?_
    refine ev_aret (X := M_X11_newLaw) (pc := 106) dX11_newLaw_106 rfl (Or.inl ⟨_, rfl⟩) ?_
    first
      | (rw [g1]; exact ⟨rfl, rfl, rfl⟩)
      | (have hz : kd = 0 := by omega
         rw [hz]; exact ⟨rfl, rfl, rfl⟩)
  · refine ev_tableOut (X := M_X11_newLaw) (pc := 1) (tgt := 107) dX11_newLaw_1 (by omega) (by omega) (by decide) ?_
    refine ev_new (X := M_X11_newLaw) (pc := 107) (ci := 4) dX11_newLaw_107 rfl kw_400 kw_401 kw_6 ?_
    refine ev_dup (X := M_X11_newLaw) (pc := 110) dX11_newLaw_110 (fun _ q => by cases q) ?_
    refine ev_iconst (X := M_X11_newLaw) (pc := 111) dX11_newLaw_111 ?_
    refine ev_iload_n (X := M_X11_newLaw) (pc := 112) dX11_newLaw_112 rfl ?_
    refine ev_iload_n (X := M_X11_newLaw) (pc := 113) dX11_newLaw_113 rfl ?_
    refine ev_initV (X := M_X11_newLaw) (Y := M_X4_init) (pc := 114) dX11_newLaw_114 mk_X4_init rfl rfl kw_402 kw_74 (by omega) (c_iL_4 (h1 _) (h2 _) hV1 (by omega) hp (by rw [nwK_new])) rfl (by decide) rfl (Nat.le_of_ble_eq_true rfl) (Nat.zero_add _) (Nat.zero_add _) ?_
    refine ev_aret (X := M_X11_newLaw) (pc := 117) dX11_newLaw_117 rfl (Or.inl ⟨_, rfl⟩) ?_
    first
      | (rw [g1]; exact ⟨rfl, rfl, rfl⟩)
      | (have hz : kd = 0 := by omega
         rw [hz]; exact ⟨rfl, rfl, rfl⟩)
theorem asg_lcl (kd : Int) : asgW 5 (lcl kd) := by
  unfold lcl
  repeat' split
  · exact ⟨_, rfl, Or.inr ⟨_, rfl, kn_1463⟩⟩
  · exact ⟨_, rfl, Or.inr ⟨_, rfl, kn_1464⟩⟩
  · exact ⟨_, rfl, Or.inr ⟨_, rfl, kn_1465⟩⟩
  · exact ⟨_, rfl, Or.inr ⟨_, rfl, kn_1466⟩⟩
  · exact ⟨_, rfl, Or.inr ⟨_, rfl, kn_1467⟩⟩
  · exact ⟨_, rfl, Or.inr ⟨_, rfl, kn_1468⟩⟩
  · exact ⟨_, rfl, Or.inl rfl⟩
theorem layR_ok : ∀ q ∈ layR, q.1 < 178 ∧ q.1 ≠ 103 ∧ q.1 ≠ 104 ∧ q.1 ≠ 128 ∧ q.1 ≠ 129 := by decide +kernel
theorem layS_ok : ∀ q ∈ layS, q.2.1 ≠ 0 := by decide +kernel
theorem Lay.mv {K K' : Sk} (h : Lay K) (hk : ∀ c, (K.1 c).1 ≠ 0 → K'.1 c = K.1 c) (hr : ∀ c j, c < 178 → c ≠ 103 → c ≠ 104 → c ≠ 128 → c ≠ 129 → K'.2.1 c j = K.2.1 c j) (hn : K.2.2 ≤ K'.2.2) : Lay K' := by
  obtain ⟨a1, a2, a3, a4, a5⟩ := h
  refine ⟨fun q hq => ?_, fun q hq => ?_, ?_, ?_, by omega⟩
  · have e := a1 q hq
    rw [hk q.1 (by rw [e]; exact layS_ok q hq)]
    exact e
  · obtain ⟨o1, o2, o3, o4, o5⟩ := layR_ok q hq
    rw [hr q.1 q.2.1 o1 o2 o3 o4 o5]
    exact a2 q hq
  · rw [hr 101 7 (by decide) (by decide) (by decide) (by decide) (by decide), hr 101 8 (by decide) (by decide) (by decide) (by decide) (by decide)]; exact a3
  · rw [hr 101 9 (by decide) (by decide) (by decide) (by decide) (by decide), hr 101 10 (by decide) (by decide) (by decide) (by decide) (by decide)]; exact a4
theorem Fr.new {K : Sk} {k n : Nat} (h : Fr K) : Fr (nwK K k n) := fun c hc => by
  have hc' : K.2.2 + 1 ≤ c := hc
  rw [nwK_old (by omega)]
  exact h c (by omega)
theorem Fr.wr {K : Sk} {a : Nat} {i : Int} {x : Nat} (h : Fr K) : Fr (wrR K a i x) := h
theorem c_law {γ : Gh} {K : Sk} {V : Mm} {D E : Int → Int} {im : Int} {er : Int → Int} (h : CI K V D E im er) (hw : DL D) {p km : Int} (hp : R32 p) (hm : R32 km) : Call γ M_X11_law 6 1 5 [vR 100, vI p, vI km] K V (Qg (some (vI (aR (laK p km) (10 * D (3 + p) + D (9 + p))))) (fun K' W => kF K K' ∧ oF V W ∧ CI K' W (aD (laK p km) D (up (up D (3 + p) (km / 10)) (9 + p) (km % 10))) E im (erK er (laK p km)))) := by
  refine call_of (by decide +kernel) (by intro v hv; simp only [List.mem_cons, List.not_mem_nil, or_false] at hv; rcases hv with rfl | rfl | rfl <;> exact fun q => by cases q) (Nat.le_of_ble_eq_true rfl) ?_
  refine ev_lsE (ls' := [_, _, _, _]) rfl ?_
  have hL := h.1.L
  obtain ⟨⟨q1, q2, ⟨b1, b2, b3, b4, b5, b6, b7, b8⟩, q4, q5, q6, q7, q8⟩, sc⟩ := id h
  have hN : 178 ≤ K.2.2 := hL.2.2.2.2
  refine ev_iload_n (X := M_X11_law) (pc := 0) dX11_law_0 rfl ?_
  refine ev_staticR (X := M_X11_law) (Y := M_X11_isPair) (pc := 1) dX11_law_1 mk_X11_isPair kw_336 kw_337 (c_isPair hp) rfl (by decide) rfl (Nat.le_of_ble_eq_true rfl) (Nat.zero_add _) (Nat.zero_add _) ?_
  refine ev_if_eq (X := M_X11_law) (pc := 4) (tgt := 17) dX11_law_4 (by decide) (by split <;> decide) (fun h4 => ?_) (fun h4 => ?_)
  · have hk : laK p km = 1 := by unfold laK; rw [if_neg (fun z => by rw [if_pos z.1] at h4; exact absurd h4 (by decide))]
    refine ev_aload_n (X := M_X11_law) (pc := 17) dX11_law_17 rfl ?_
    refine ev_ldc (X := M_X11_law) (pc := 18) (v := -1000000001) dX11_law_18 kw_318 (by decide) ?_
    refine ev_virtR (X := M_X11_law) (Y := M_X11_error) (pc := 20) (ci := 11) dX11_law_20 mk_X11_error rfl kw_319 kw_321 kp_0 (lO_100 hL) (c_error hL (k := 1) (by decide) rfl) rfl (by decide) rfl (Nat.le_of_ble_eq_true rfl) (Nat.zero_add _) (Nat.zero_add _) ?_
    refine ev_iret (X := M_X11_law) (pc := 23) dX11_law_23 rfl ?_
    rw [hk]
    exact ⟨rfl, kF.rf, oF_err, h.e hw (by decide)⟩
  · have hs3 : 0 ≤ p ∧ p < 6 := Decidable.byContradiction fun z => h4 (by rw [if_neg z])
    refine ev_iload_n (X := M_X11_law) (pc := 7) dX11_law_7 rfl ?_
    refine ev_if_lt (X := M_X11_law) (pc := 8) (tgt := 17) dX11_law_8 (by decide) (by omega) (fun h8 => ?_) (fun h8 => ?_)
    · have hk : laK p km = 1 := by unfold laK; rw [if_neg (by omega)]
      refine ev_aload_n (X := M_X11_law) (pc := 17) dX11_law_17 rfl ?_
      refine ev_ldc (X := M_X11_law) (pc := 18) (v := -1000000001) dX11_law_18 kw_318 (by decide) ?_
      refine ev_virtR (X := M_X11_law) (Y := M_X11_error) (pc := 20) (ci := 11) dX11_law_20 mk_X11_error rfl kw_319 kw_321 kp_0 (lO_100 hL) (c_error hL (k := 1) (by decide) rfl) rfl (by decide) rfl (Nat.le_of_ble_eq_true rfl) (Nat.zero_add _) (Nat.zero_add _) ?_
      refine ev_iret (X := M_X11_law) (pc := 23) dX11_law_23 rfl ?_
      rw [hk]
      exact ⟨rfl, kF.rf, oF_err, h.e hw (by decide)⟩
    · refine ev_iload_n (X := M_X11_law) (pc := 11) dX11_law_11 rfl ?_
      refine ev_bipush (X := M_X11_law) (pc := 12) dX11_law_12 (by decide) ?_
      refine ev_icmp_lt (X := M_X11_law) (pc := 14) (tgt := 24) dX11_law_14 (by decide) (by omega) (by omega) (fun h14 => ?_) (fun h14 => ?_)
      · have hk : laK p km = 0 := by unfold laK; rw [if_pos (by omega)]
        have hA := q5.1 p hs3
        obtain ⟨c, hc⟩ : ∃ c, K.2.1 103 p = c := ⟨_, rfl⟩
        have hA : LawA K V c p (D (3 + p)) (D (9 + p)) := by rw [← hc]; exact hA
        refine ev_aload_n (X := M_X11_law) (pc := 24) dX11_law_24 rfl ?_
        refine ev_getRe (X := M_X11_law) (pc := 25) dX11_law_25 fl_X11_20_11 (lO_100 hL) rfl (lR_100_0 hL) ?_
        refine ev_getRe (X := M_X11_law) (pc := 28) dX11_law_28 fl_X11_79_2 (lO_102 hL) rfl (lR_102_0 hL) ?_
        refine ev_iload_n (X := M_X11_law) (pc := 31) dX11_law_31 rfl ?_
        refine ev_aaloadE (X := M_X11_law) (pc := 32) dX11_law_32 (lS_103 hL) (by decide) (by decide) (by omega) (hc) ?_
        refine ev_astore_nL (X := M_X11_law) (pc := 33) (ls' := [_, _, _, _]) dX11_law_33 (by decide) rfl ?_
        refine ev_aload_n (X := M_X11_law) (pc := 34) dX11_law_34 rfl ?_
        refine ev_getRe (X := M_X11_law) (pc := 35) dX11_law_35 fl_X11_20_11 (lO_100 hL) rfl (lR_100_0 hL) ?_
        refine ev_getRe (X := M_X11_law) (pc := 38) dX11_law_38 fl_X11_79_2 (lO_102 hL) rfl (lR_102_0 hL) ?_
        refine ev_iload_n (X := M_X11_law) (pc := 41) dX11_law_41 rfl ?_
        refine ev_iload_n (X := M_X11_law) (pc := 42) dX11_law_42 rfl ?_
        refine ev_bipush (X := M_X11_law) (pc := 43) dX11_law_43 (by decide) ?_
        refine ev_idiv (X := M_X11_law) (pc := 45) dX11_law_45 (by omega) (by decide) ?_
        refine ev_iload_n (X := M_X11_law) (pc := 46) dX11_law_46 rfl ?_
        refine ev_iload_n (X := M_X11_law) (pc := 47) dX11_law_47 rfl ?_
        refine ev_bipush (X := M_X11_law) (pc := 48) dX11_law_48 (by decide) ?_
        refine ev_irem (X := M_X11_law) (pc := 50) dX11_law_50 (by omega) (by decide) ?_
        refine ev_staticR (X := M_X11_law) (Y := M_X11_newLaw) (pc := 51) dX11_law_51 mk_X11_newLaw kw_339 kw_340 (c_newLaw hL b2 (kd := km / 10) (p := p) (m := km % 10) (by omega) hs3) rfl (by decide) rfl (Nat.le_of_ble_eq_true rfl) (Nat.add_zero _) (Nat.add_zero _) ?_
        obtain ⟨K1, hK1⟩ : ∃ K1, nwK K (lcl (km / 10) + 10) 0 = K1 := ⟨_, rfl⟩
        obtain ⟨V1, hV1⟩ : ∃ V1, lwF (nwV K V) K.2.2 (km / 10) p (km % 10) = V1 := ⟨_, rfl⟩
        have n1 : K1.1 K.2.2 = (lcl (km / 10) + 10, 0) := by rw [← hK1]; exact nwK_new
        have n2 : ∀ c, c ≠ K.2.2 → K1.1 c = K.1 c := fun c z => by rw [← hK1]; exact nwK_old z
        have n3 : ∀ c j, c ≠ K.2.2 → K1.2.1 c j = K.2.1 c j := fun c j z => by rw [← hK1]; exact nwK_ref z
        have n4 : K1.2.2 = K.2.2 + 1 := by rw [← hK1]; rfl
        have n5 : Fr K1 := by rw [← hK1]; exact q1.new
        have v1 : ∀ c, c ≠ K.2.2 → V1 c = V c := fun c z => by rw [← hV1, lwF_off z, nwV_old z]
        have v2 : LawA K1 V1 K.2.2 p (km / 10) (km % 10) := by
          obtain ⟨x0, x1, x2, x3, x4⟩ := lwF_at (V := nwV K V) (c := K.2.2) (kd := km / 10) (p := p) (m := km % 10)
          rw [hV1] at x0 x1 x2 x3 x4
          exact ⟨by rw [n1], x0, x1, x2, x3, x4, Or.inr (Or.inr hN)⟩
        rw [hK1, hV1]
        clear hK1 hV1
        have hkn : ∀ c, (K.1 c).1 ≠ 0 → c ≠ K.2.2 := fun c z y => z (by rw [y]; exact q1 _ (Nat.le_refl _))
        have hLo := hL
        have hL : Lay K1 := hLo.mv (fun c z => n2 c (hkn c z)) (fun c j z _ _ _ _ => n3 c j (by omega)) (by omega)
        refine ev_aastore (X := M_X11_law) (pc := 54) dX11_law_54 (by decide) (lS_103 hL) (by decide) (by decide) (by omega) (Or.inr ⟨lcl (km / 10), (by rw [n1]), asg_lcl _⟩) ?_
        obtain ⟨K2, hK2⟩ : ∃ K2, wrR K1 103 p K.2.2 = K2 := ⟨_, rfl⟩
        have m1 : ∀ c, K2.1 c = K1.1 c := fun c => by rw [← hK2]; rfl
        have m2 : K2.2.2 = K1.2.2 := by rw [← hK2]; rfl
        have m3 : ∀ a j, ¬ (a = 103 ∧ j = p) → K2.2.1 a j = K1.2.1 a j := fun a j z => by rw [← hK2]; exact wrR_ne z
        have m4 : K2.2.1 103 p = K.2.2 := by rw [← hK2]; exact wrR_self
        have m5 : Fr K2 := by rw [← hK2]; exact n5
        rw [hK2]
        clear hK2
        have hkk : ∀ c, (K.1 c).1 ≠ 0 → K2.1 c = K.1 c := fun c z => by rw [m1, n2 c (hkn c z)]
        have hvv : ∀ c, ownA c → ¬ vrow K c → (K.1 c).1 ≠ 0 → V1 c = V c := fun c _ _ z => v1 c (hkn c z)
        have hrr : ∀ c j, c ≠ 103 → c ≠ K.2.2 → K2.2.1 c j = K.2.1 c j := fun c j z y => by rw [m3 c j (fun q => z q.1), n3 c j y]
        have hL : Lay K2 := hLo.mv hkk (fun c j z y _ _ _ => hrr c j y (by omega)) (by omega)
        have hAc : LawA K2 V1 c p (D (3 + p)) (D (9 + p)) := hA.mv hkk hvv
        obtain ⟨D', hD'⟩ : ∃ D', up (up D (3 + p) (km / 10)) (9 + p) (km % 10) = D' := ⟨_, rfl⟩
        have cg : ∀ i, i ≠ 3 + p → i ≠ 9 + p → D' i = D i := fun i z y => by rw [← hD', up_ne y, up_ne z]
        have d3 : D' (3 + p) = km / 10 := by rw [← hD', up_ne (by omega), up_self]
        have d9 : D' (9 + p) = km % 10 := by rw [← hD', up_self]
        rw [hD']
        clear hD'
        have t0 : tfD D' 0 = tfD D 0 := tfD_cg (Or.inl rfl) (fun i z => cg i (by omega) (by omega)) hw.d26
        have hK' : Kds D' := by
          refine ⟨fun q h0 h1 => ?_, by rw [cg (26 + 0) (by omega) (by omega)]; exact hw.2.1.2.1, fun z => ?_⟩
          · by_cases y : q = p
            · rw [y, d3, d9]; omega
            · rw [cg _ (by omega) (by omega), cg _ (by omega) (by omega)]; exact hw.2.1.1 q h0 h1
          · rw [cg (26 + 0) (by omega) (by omega)] at z ⊢
            rw [t0]
            obtain ⟨y1, y2⟩ := hw.2.1.2.2 z
            have h50 : D (26 + 0) ≤ 50 := hw.d26
            exact ⟨y1, fun i i0 i1 => by rw [cg _ (by omega) (by omega)]; exact y2 i i0 i1⟩
        have hF' : wfF D' := fun q hq => by rw [cg _ (by omega) (by omega)]; exact hw.2.2.1 q hq
        have hTI : ∀ u, u = 0 ∨ u = 1 → TI K V 104 D u → TI K2 V1 104 D' u := fun u hu z => by
          have z2 : TI K2 V1 104 D u := z.mv hkk (fun c j y1 y2 => hrr c j (by omega) (hkn c y2)) (hrr 104 u (by decide) (by omega)) hvv
          exact z2.cg hu (fun i y => cg i (by omega) (by omega)) (by rcases hu with y | y <;> subst y; exact hw.d26; exact hw.d27)
        have hLT : LTA K2 V1 102 D' := by
          refine ⟨fun q hq => ?_, hTI 0 (Or.inl rfl) q5.2.1, hTI 1 (Or.inr rfl) q5.2.2⟩
          by_cases y : q = p
          · rw [y]
            show LawA K2 V1 (K2.2.1 103 p) p (D' (3 + p)) (D' (9 + p))
            rw [m4, d3, d9]
            obtain ⟨x0, x1⟩ := v2
            exact ⟨by rw [m1]; exact x0, x1⟩
          · show LawA K2 V1 (K2.2.1 103 q) q (D' (3 + q)) (D' (9 + q))
            rw [m3 103 q (fun z => y z.2), n3 103 q (by omega), cg _ (by omega) (by omega), cg _ (by omega) (by omega)]
            exact (q5.1 q hq).mv hkk hvv
        have hSV1 : SV V1 := by unfold SV; rw [v1 1 (by omega), v1 2 (by omega), v1 3 (by omega)]; exact b2
        have hsc : SCA V1 102 D' := by
          have z := sc.mv (W := V1) (fun c y => v1 c (by omega))
          have e1 : nowS D' = nowS D := by unfold nowS; rw [cg 0 (by omega) (by omega), cg 1 (by omega) (by omega), cg 2 (by omega) (by omega)]
          have e2 : fS D' = fS D := fS_cg (fun i y1 y2 => cg i (by omega) (by omega))
          obtain ⟨s1, s2, s3, s4, s5, s6, s7, s8, s9⟩ := z
          refine ⟨by rw [e1]; exact s1, by rw [e2]; exact s2, by rw [cg 21 (by omega) (by omega)]; exact s3, by rw [cg 22 (by omega) (by omega)]; exact s4, by rw [cg 23 (by omega) (by omega)]; exact s5, by rw [cg 24 (by omega) (by omega)]; exact s6, fun i i0 i1 => ?_, by rw [cg 25 (by omega) (by omega)]; exact s8, fun i i0 i1 => ?_⟩
          · rw [cg 24 (by omega) (by omega)] at i1; rw [cg _ (by omega) (by omega)]; exact s7 i i0 i1
          · rw [cg 25 (by omega) (by omega)] at i1; rw [cg _ (by omega) (by omega)]; exact s9 i i0 i1
        refine ev_aload_n (X := M_X11_law) (pc := 55) dX11_law_55 rfl ?_
        refine ev_virtY (X := M_X11_law) (Y := M_X11_rulesChanged) (pc := 56) (ci := 11) dX11_law_56 mk_X11_rulesChanged rfl kw_409 kw_411 kp_1 (lO_100 hL) (c_rulesChanged hL hSV1 hK' hLT.2.1 hLT.1) rfl (by decide) rfl (Nat.le_of_ble_eq_true rfl) (Nat.zero_add _) (Nat.zero_add _) (fun W hW => ?_)
        have hAW : LawA K2 W c p (D (3 + p)) (D (9 + p)) := by
          refine hAc.mv (fun _ _ => rfl) (fun x y1 y2 _ => ?_)
          have ho : (112 ≤ x ∧ x ≤ 117) ∨ (137 ≤ x ∧ x ≤ 142) ∨ 178 ≤ x := y1
          exact hW.1 x (by omega) (by omega) (by omega) (by omega) (fun z => y2 (vr_t hLT.2.1 z))
        refine ev_aload_n (X := M_X11_law) (pc := 59) dX11_law_59 rfl ?_
        refine ev_getIe (X := M_X11_law) (pc := 60) (ki := 0) dX11_law_60 (fls_X11_90 _) hAW.1 (Or.inl (lcl_int _ 0 (by decide))) rfl (hAW.2.1) ?_
        refine ev_bipush (X := M_X11_law) (pc := 63) dX11_law_63 (by decide) ?_
        refine ev_imul (X := M_X11_law) (pc := 65) dX11_law_65 ?_
        refine ev_aload_n (X := M_X11_law) (pc := 66) dX11_law_66 rfl ?_
        refine ev_getIe (X := M_X11_law) (pc := 67) (ki := 2) dX11_law_67 (fls_X11_95 _) hAW.1 (Or.inl (lcl_int _ 2 (by decide))) rfl (hAW.2.2.2.1) ?_
        refine ev_iadd (X := M_X11_law) (pc := 70) dX11_law_70 ?_
        refine ev_iret (X := M_X11_law) (pc := 71) dX11_law_71 rfl ?_
        rw [hk]
        have hrc := CL.rc (E := E) (im := im) (er := er) hL m5 (q2.mv hkk (fun x j z => hrr x j (by omega) (by omega)) (fun x hc => v1 x (by omega))) hSV1 (by unfold SV2; rw [v1 4 (by omega), v1 5 (by omega)]; exact b3) (fun q hq => by rw [v1 118 (by omega)]; exact b7 q hq) hK' hF' hsc.2.1 hLT (by rw [v1 100 (by omega)]; exact q6) (fun z => ⟨(q7 z).1.mv hkk (fun x j y1 y2 => hrr x j (by omega) (hkn x y2)) (by rw [lS_128 hLo]; show (5 : Nat) ≠ 0; decide) (by rw [lS_129 hLo]; show (6 : Nat) ≠ 0; decide) hvv, (q7 z).2.mv (fun x y => v1 x (by omega))⟩) (by rw [v1 155 (by omega)]; exact q8) hW
        refine ⟨congrArg (fun z => some (vI z)) ?_, (fun x z => by rw [m1, n2 x (by omega)]), (fun x z => by rw [fR_oF hW.1 x z]; exact v1 x (by omega)), hrc.1, hrc.2 hsc⟩
        show D (3 + p) * 10 + D (9 + p) = 10 * D (3 + p) + D (9 + p)
        omega
      · have hk : laK p km = 1 := by unfold laK; rw [if_neg (by omega)]
        refine ev_aload_n (X := M_X11_law) (pc := 17) dX11_law_17 rfl ?_
        refine ev_ldc (X := M_X11_law) (pc := 18) (v := -1000000001) dX11_law_18 kw_318 (by decide) ?_
        refine ev_virtR (X := M_X11_law) (Y := M_X11_error) (pc := 20) (ci := 11) dX11_law_20 mk_X11_error rfl kw_319 kw_321 kp_0 (lO_100 hL) (c_error hL (k := 1) (by decide) rfl) rfl (by decide) rfl (Nat.le_of_ble_eq_true rfl) (Nat.zero_add _) (Nat.zero_add _) ?_
        refine ev_iret (X := M_X11_law) (pc := 23) dX11_law_23 rfl ?_
        rw [hk]
        exact ⟨rfl, kF.rf, oF_err, h.e hw (by decide)⟩
