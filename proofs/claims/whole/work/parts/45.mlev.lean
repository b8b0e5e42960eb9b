theorem m_product {γ : Gh} {K : Sk} {V : Mm} {f nm : Int → Int} {n u : Int} {k : Nat} (ih : MUn γ K f nm n u k) (h : MT K V f nm n u) (hq : 0 ≤ V 156 5 ∧ V 156 5 ≤ n) (ha : V 156 7 = -1) (ho : V 156 8 = 5 - k) : Call γ M_X12_product (2+6*k+1) 0 0 [vR 156] K V (Qz K (PM V nm n (lvl (prS f n u k) f n 1 (V 156 5)))) := by
  refine call_of (by decide +kernel) (by intro v hv; simp only [List.mem_cons, List.not_mem_nil, or_false] at hv; rcases hv with rfl <;> exact fun q => by cases q) (Nat.le_of_ble_eq_true rfl) ?_
  refine ev_lsE (ls' := [_, _, _, _]) rfl ?_
  have hL := h.1
  have hn5 := h.2.2.2.2.1
  have hBj := lvl_B (f := f) (prS_B (f := f) (n := n) (u := u) k) 0
  refine ev_aload_n (X := M_X12_product) (pc := 0) dX12_product_0 rfl ?_
  refine ev_virtZ (X := M_X12_product) (Y := M_X12_unit) (pc := 1) (ci := 12) dX12_product_1 mk_X12_unit rfl kw_1126 kw_1128 kp_12 (lO_156 hL) (ih V h hq ha ho) rfl (by omega) rfl (Nat.le_of_ble_eq_true rfl) (Nat.zero_add _) (Nat.zero_add _) (fun v0 W0 hW0 => ?_)
  refine ev_istore_nL (X := M_X12_product) (pc := 4) (ls' := [_, _, _, _]) dX12_product_4 (by decide) rfl ?_
  refine ev_weak (ev_while (σ := Nat × Int × Mm) (fun s => LI V nm n (lvl (prS f n u k) f n 0) f 0 (lvl (prS f n u k) f n 1 (V 156 5)) s.1 s.2.1 s.2.2) (fun s => s.1) (fun s => [vR 156, vI s.2.1, vU, vU]) (fun _ => K) (fun s => s.2.2) ?_ (50, v0, W0) (LI.init (by decide) hn5.2 hW0)) ⟨rfl, rfl, trivial⟩
  clear hW0 v0 W0
  rintro ⟨fu, v, W⟩ hI ih2
  dsimp only at hI ih2 ⊢
  obtain ⟨b1, b2, b3, b4⟩ := hI.base
  have hH := h.hh (W := W) b2.1
  have hhere := m_here (γ := γ) (h.mP b1) b2 b3
  have hex : ∀ c, hr f n W = c → c ∈ opsJ 0 → ∃ q, sgn f n q = c ∧ W 156 7 = -1 ∧ W 156 5 = q ∧ W 156 8 = V 156 8 ∧ mP V W ∧ (0 ≤ q ∧ q < n) ∧ 1 ≤ fu ∧ ∀ w W2, PM (wr W 156 5 (q + 1)) nm n (lvl (prS f n u k) f n 0 (q + 1)) w W2 → LI V nm n (lvl (prS f n u k) f n 0) f 0 (lvl (prS f n u k) f n 1 (V 156 5)) (fu - 1) (jn c v w) W2 := fun c e hc => by
    obtain ⟨q, e1, e2⟩ := hI.go hBj (by rw [e]; exact hc)
    refine ⟨q, by rw [← e1, e], ?_⟩
    rw [← e1, e] at e2
    exact e2
  have hxx := hI.exit
  generalize hr f n W = c at *
  refine ev_aload_n (X := M_X12_product) (pc := 5) dX12_product_5 rfl ?_
  refine ev_virtR (X := M_X12_product) (Y := M_X12_here) (pc := 6) (ci := 12) dX12_product_6 mk_X12_here rfl kw_1130 kw_1132 kp_13 (lO_156 hL) (hhere) rfl (by omega) rfl (Nat.le_of_ble_eq_true rfl) (Nat.zero_add _) (Nat.zero_add _) ?_
  refine ev_bipush (X := M_X12_product) (pc := 9) dX12_product_9 (by decide) ?_
  refine ev_icmp_eq (X := M_X12_product) (pc := 11) (tgt := 32) dX12_product_11 (by decide) (by omega) (by omega) (fun h11 => ?_) (fun h11 => ?_)
  · refine ev_aload_n (X := M_X12_product) (pc := 32) dX12_product_32 rfl ?_
    refine ev_virtR (X := M_X12_product) (Y := M_X12_here) (pc := 33) (ci := 12) dX12_product_33 mk_X12_here rfl kw_1130 kw_1132 kp_13 (lO_156 hL) (hhere) rfl (by omega) rfl (Nat.le_of_ble_eq_true rfl) (Nat.zero_add _) (Nat.zero_add _) ?_
    refine ev_istore_nL (X := M_X12_product) (pc := 36) (ls' := [_, _, _, _]) dX12_product_36 (by decide) rfl ?_
    refine ev_aload_n (X := M_X12_product) (pc := 37) dX12_product_37 rfl ?_
    refine ev_dup (X := M_X12_product) (pc := 38) dX12_product_38 (fun _ q => by cases q) ?_
    refine ev_getI (X := M_X12_product) (pc := 39) (ki := 5) dX12_product_39 fl_X12_94_12 (lO_156 hL) (by decide) rfl ?_
    refine ev_iconst (X := M_X12_product) (pc := 42) dX12_product_42 ?_
    refine ev_iadd (X := M_X12_product) (pc := 43) dX12_product_43 ?_
    refine ev_putI (X := M_X12_product) (pc := 44) (ki := 5) dX12_product_44 fl_X12_94_12 (by decide) (lO_156 hL) (fun _ h q => by cases h; cases q) (Or.inl rfl) rfl ?_
    obtain ⟨q, q1, q2, q3, q4, q5, q6, q7, hgo⟩ := hex c rfl (by first | (subst h11; decide) | (subst h20; decide) | (subst h29; decide) | (rw [h11]; decide) | (rw [h20]; decide) | (rw [h29]; decide))
    rw [q3]
    have m2 : mP V (wr W 156 5 (q + 1)) := b1.w (by omega) _
    have a2 : wr W 156 5 (q + 1) 156 5 = q + 1 := wr_self
    have f2 : wr W 156 5 (q + 1) 156 7 = -1 := by rw [wr_ne (by omega), q2]
    have o2 : wr W 156 5 (q + 1) 156 8 = 5 - k := by rw [wr_ne (by omega), q4, ho]
    generalize wr W 156 5 (q + 1) = W2 at *
    refine ev_aload_n (X := M_X12_product) (pc := 47) dX12_product_47 rfl ?_
    refine ev_virtZ (X := M_X12_product) (Y := M_X12_unit) (pc := 48) (ci := 12) dX12_product_48 mk_X12_unit rfl kw_1126 kw_1128 kp_12 (lO_156 hL) (ih W2 (h.mP m2) (by rw [a2]; omega) f2 o2) rfl (by omega) rfl (Nat.le_of_ble_eq_true rfl) (Nat.zero_add _) (Nat.zero_add _) (fun w W3 hW3 => ?_)
    have hw := hW3.2.1
    rw [a2] at hW3
    refine ev_istore_nL (X := M_X12_product) (pc := 51) (ls' := [_, _, _, _]) dX12_product_51 (by decide) rfl ?_
    refine ev_iload_n (X := M_X12_product) (pc := 52) dX12_product_52 rfl ?_
    refine ev_bipush (X := M_X12_product) (pc := 53) dX12_product_53 (by decide) ?_
    refine ev_icmp_ne (X := M_X12_product) (pc := 55) (tgt := 64) dX12_product_55 (by decide) (by omega) (by omega) (fun h55 => ?_) (fun h55 => ?_)
    · refine ev_iload_n (X := M_X12_product) (pc := 64) dX12_product_64 rfl ?_
      refine ev_if_ne (X := M_X12_product) (pc := 65) (tgt := 72) dX12_product_65 (by decide) (by omega) (fun h65 => ?_) (fun h65 => ?_)
      · refine ev_iload_n (X := M_X12_product) (pc := 72) dX12_product_72 rfl ?_
        refine ev_bipush (X := M_X12_product) (pc := 73) dX12_product_73 (by decide) ?_
        refine ev_icmp_ne (X := M_X12_product) (pc := 75) (tgt := 84) dX12_product_75 (by decide) (by omega) (by omega) (fun h75 => ?_) (fun h75 => ?_)
        · refine ev_iload_n (X := M_X12_product) (pc := 84) dX12_product_84 rfl ?_
          refine ev_iload_n (X := M_X12_product) (pc := 85) dX12_product_85 rfl ?_
          refine ev_iremg (X := M_X12_product) (pc := 86) dX12_product_86 (i32_ne0 hw h65) ?_
          refine ev_istore_nL (X := M_X12_product) (pc := 87) (ls' := [_, _, _, _]) dX12_product_87 (by decide) rfl ?_
          refine ev_goto (X := M_X12_product) (pc := 88) (tgt := 5) dX12_product_88 (by decide) ?_
          refine ev_weak (ih2 (fu - 1, jn c v w, W3) (hgo w W3 hW3) (by show fu - 1 < fu; omega)) ⟨rfl, congrArg vI ?_, trivial⟩
          unfold jn
          repeat' split
          all_goals first | rfl | omega
        · refine ev_iload_n (X := M_X12_product) (pc := 78) dX12_product_78 rfl ?_
          refine ev_iload_n (X := M_X12_product) (pc := 79) dX12_product_79 rfl ?_
          refine ev_idivg (X := M_X12_product) (pc := 80) dX12_product_80 (i32_ne0 hw h65) ?_
          refine ev_goto (X := M_X12_product) (pc := 81) (tgt := 87) dX12_product_81 (by decide) ?_
          refine ev_istore_nL (X := M_X12_product) (pc := 87) (ls' := [_, _, _, _]) dX12_product_87 (by decide) rfl ?_
          refine ev_goto (X := M_X12_product) (pc := 88) (tgt := 5) dX12_product_88 (by decide) ?_
          refine ev_weak (ih2 (fu - 1, jn c v w, W3) (hgo w W3 hW3) (by show fu - 1 < fu; omega)) ⟨rfl, congrArg vI ?_, trivial⟩
          unfold jn
          repeat' split
          all_goals first | rfl | omega
      · refine ev_iconst (X := M_X12_product) (pc := 68) dX12_product_68 ?_
        refine ev_goto (X := M_X12_product) (pc := 69) (tgt := 87) dX12_product_69 (by decide) ?_
        refine ev_istore_nL (X := M_X12_product) (pc := 87) (ls' := [_, _, _, _]) dX12_product_87 (by decide) rfl ?_
        refine ev_goto (X := M_X12_product) (pc := 88) (tgt := 5) dX12_product_88 (by decide) ?_
        refine ev_weak (ih2 (fu - 1, jn c v w, W3) (hgo w W3 hW3) (by show fu - 1 < fu; omega)) ⟨rfl, congrArg vI ?_, trivial⟩
        unfold jn
        repeat' split
        all_goals first | rfl | omega
    · refine ev_iload_n (X := M_X12_product) (pc := 58) dX12_product_58 rfl ?_
      refine ev_iload_n (X := M_X12_product) (pc := 59) dX12_product_59 rfl ?_
      refine ev_imul (X := M_X12_product) (pc := 60) dX12_product_60 ?_
      refine ev_nrm ?_
      refine ev_goto (X := M_X12_product) (pc := 61) (tgt := 87) dX12_product_61 (by decide) ?_
      refine ev_istore_nL (X := M_X12_product) (pc := 87) (ls' := [_, _, _, _]) dX12_product_87 (by decide) rfl ?_
      refine ev_goto (X := M_X12_product) (pc := 88) (tgt := 5) dX12_product_88 (by decide) ?_
      refine ev_weak (ih2 (fu - 1, jn c v w, W3) (hgo w W3 hW3) (by show fu - 1 < fu; omega)) ⟨rfl, congrArg vI ?_, trivial⟩
      unfold jn
      repeat' split
      all_goals first | rfl | omega
  · refine ev_aload_n (X := M_X12_product) (pc := 14) dX12_product_14 rfl ?_
    refine ev_virtR (X := M_X12_product) (Y := M_X12_here) (pc := 15) (ci := 12) dX12_product_15 mk_X12_here rfl kw_1130 kw_1132 kp_13 (lO_156 hL) (hhere) rfl (by omega) rfl (Nat.le_of_ble_eq_true rfl) (Nat.zero_add _) (Nat.zero_add _) ?_
    refine ev_bipush (X := M_X12_product) (pc := 18) dX12_product_18 (by decide) ?_
    refine ev_icmp_eq (X := M_X12_product) (pc := 20) (tgt := 32) dX12_product_20 (by decide) (by omega) (by omega) (fun h20 => ?_) (fun h20 => ?_)
    · refine ev_aload_n (X := M_X12_product) (pc := 32) dX12_product_32 rfl ?_
      refine ev_virtR (X := M_X12_product) (Y := M_X12_here) (pc := 33) (ci := 12) dX12_product_33 mk_X12_here rfl kw_1130 kw_1132 kp_13 (lO_156 hL) (hhere) rfl (by omega) rfl (Nat.le_of_ble_eq_true rfl) (Nat.zero_add _) (Nat.zero_add _) ?_
      refine ev_istore_nL (X := M_X12_product) (pc := 36) (ls' := [_, _, _, _]) dX12_product_36 (by decide) rfl ?_
      refine ev_aload_n (X := M_X12_product) (pc := 37) dX12_product_37 rfl ?_
      refine ev_dup (X := M_X12_product) (pc := 38) dX12_product_38 (fun _ q => by cases q) ?_
      refine ev_getI (X := M_X12_product) (pc := 39) (ki := 5) dX12_product_39 fl_X12_94_12 (lO_156 hL) (by decide) rfl ?_
      refine ev_iconst (X := M_X12_product) (pc := 42) dX12_product_42 ?_
      refine ev_iadd (X := M_X12_product) (pc := 43) dX12_product_43 ?_
      refine ev_putI (X := M_X12_product) (pc := 44) (ki := 5) dX12_product_44 fl_X12_94_12 (by decide) (lO_156 hL) (fun _ h q => by cases h; cases q) (Or.inl rfl) rfl ?_
      obtain ⟨q, q1, q2, q3, q4, q5, q6, q7, hgo⟩ := hex c rfl (by first | (subst h11; decide) | (subst h20; decide) | (subst h29; decide) | (rw [h11]; decide) | (rw [h20]; decide) | (rw [h29]; decide))
      rw [q3]
      have m2 : mP V (wr W 156 5 (q + 1)) := b1.w (by omega) _
      have a2 : wr W 156 5 (q + 1) 156 5 = q + 1 := wr_self
      have f2 : wr W 156 5 (q + 1) 156 7 = -1 := by rw [wr_ne (by omega), q2]
      have o2 : wr W 156 5 (q + 1) 156 8 = 5 - k := by rw [wr_ne (by omega), q4, ho]
      generalize wr W 156 5 (q + 1) = W2 at *
      refine ev_aload_n (X := M_X12_product) (pc := 47) dX12_product_47 rfl ?_
      refine ev_virtZ (X := M_X12_product) (Y := M_X12_unit) (pc := 48) (ci := 12) dX12_product_48 mk_X12_unit rfl kw_1126 kw_1128 kp_12 (lO_156 hL) (ih W2 (h.mP m2) (by rw [a2]; omega) f2 o2) rfl (by omega) rfl (Nat.le_of_ble_eq_true rfl) (Nat.zero_add _) (Nat.zero_add _) (fun w W3 hW3 => ?_)
      have hw := hW3.2.1
      rw [a2] at hW3
      refine ev_istore_nL (X := M_X12_product) (pc := 51) (ls' := [_, _, _, _]) dX12_product_51 (by decide) rfl ?_
      refine ev_iload_n (X := M_X12_product) (pc := 52) dX12_product_52 rfl ?_
      refine ev_bipush (X := M_X12_product) (pc := 53) dX12_product_53 (by decide) ?_
      refine ev_icmp_ne (X := M_X12_product) (pc := 55) (tgt := 64) dX12_product_55 (by decide) (by omega) (by omega) (fun h55 => ?_) (fun h55 => ?_)
      · refine ev_iload_n (X := M_X12_product) (pc := 64) dX12_product_64 rfl ?_
        refine ev_if_ne (X := M_X12_product) (pc := 65) (tgt := 72) dX12_product_65 (by decide) (by omega) (fun h65 => ?_) (fun h65 => ?_)
        · refine ev_iload_n (X := M_X12_product) (pc := 72) dX12_product_72 rfl ?_
          refine ev_bipush (X := M_X12_product) (pc := 73) dX12_product_73 (by decide) ?_
          refine ev_icmp_ne (X := M_X12_product) (pc := 75) (tgt := 84) dX12_product_75 (by decide) (by omega) (by omega) (fun h75 => ?_) (fun h75 => ?_)
          · refine ev_iload_n (X := M_X12_product) (pc := 84) dX12_product_84 rfl ?_
            refine ev_iload_n (X := M_X12_product) (pc := 85) dX12_product_85 rfl ?_
            refine ev_iremg (X := M_X12_product) (pc := 86) dX12_product_86 (i32_ne0 hw h65) ?_
            refine ev_istore_nL (X := M_X12_product) (pc := 87) (ls' := [_, _, _, _]) dX12_product_87 (by decide) rfl ?_
            refine ev_goto (X := M_X12_product) (pc := 88) (tgt := 5) dX12_product_88 (by decide) ?_
            refine ev_weak (ih2 (fu - 1, jn c v w, W3) (hgo w W3 hW3) (by show fu - 1 < fu; omega)) ⟨rfl, congrArg vI ?_, trivial⟩
            unfold jn
            repeat' split
            all_goals first | rfl | omega
          · refine ev_iload_n (X := M_X12_product) (pc := 78) dX12_product_78 rfl ?_
            refine ev_iload_n (X := M_X12_product) (pc := 79) dX12_product_79 rfl ?_
            refine ev_idivg (X := M_X12_product) (pc := 80) dX12_product_80 (i32_ne0 hw h65) ?_
            refine ev_goto (X := M_X12_product) (pc := 81) (tgt := 87) dX12_product_81 (by decide) ?_
            refine ev_istore_nL (X := M_X12_product) (pc := 87) (ls' := [_, _, _, _]) dX12_product_87 (by decide) rfl ?_
            refine ev_goto (X := M_X12_product) (pc := 88) (tgt := 5) dX12_product_88 (by decide) ?_
            refine ev_weak (ih2 (fu - 1, jn c v w, W3) (hgo w W3 hW3) (by show fu - 1 < fu; omega)) ⟨rfl, congrArg vI ?_, trivial⟩
            unfold jn
            repeat' split
            all_goals first | rfl | omega
        · refine ev_iconst (X := M_X12_product) (pc := 68) dX12_product_68 ?_
          refine ev_goto (X := M_X12_product) (pc := 69) (tgt := 87) dX12_product_69 (by decide) ?_
          refine ev_istore_nL (X := M_X12_product) (pc := 87) (ls' := [_, _, _, _]) dX12_product_87 (by decide) rfl ?_
          refine ev_goto (X := M_X12_product) (pc := 88) (tgt := 5) dX12_product_88 (by decide) ?_
          refine ev_weak (ih2 (fu - 1, jn c v w, W3) (hgo w W3 hW3) (by show fu - 1 < fu; omega)) ⟨rfl, congrArg vI ?_, trivial⟩
          unfold jn
          repeat' split
          all_goals first | rfl | omega
      · refine ev_iload_n (X := M_X12_product) (pc := 58) dX12_product_58 rfl ?_
        refine ev_iload_n (X := M_X12_product) (pc := 59) dX12_product_59 rfl ?_
        refine ev_imul (X := M_X12_product) (pc := 60) dX12_product_60 ?_
        refine ev_nrm ?_
        refine ev_goto (X := M_X12_product) (pc := 61) (tgt := 87) dX12_product_61 (by decide) ?_
        refine ev_istore_nL (X := M_X12_product) (pc := 87) (ls' := [_, _, _, _]) dX12_product_87 (by decide) rfl ?_
        refine ev_goto (X := M_X12_product) (pc := 88) (tgt := 5) dX12_product_88 (by decide) ?_
        refine ev_weak (ih2 (fu - 1, jn c v w, W3) (hgo w W3 hW3) (by show fu - 1 < fu; omega)) ⟨rfl, congrArg vI ?_, trivial⟩
        unfold jn
        repeat' split
        all_goals first | rfl | omega
    · refine ev_aload_n (X := M_X12_product) (pc := 23) dX12_product_23 rfl ?_
      refine ev_virtR (X := M_X12_product) (Y := M_X12_here) (pc := 24) (ci := 12) dX12_product_24 mk_X12_here rfl kw_1130 kw_1132 kp_13 (lO_156 hL) (hhere) rfl (by omega) rfl (Nat.le_of_ble_eq_true rfl) (Nat.zero_add _) (Nat.zero_add _) ?_
      refine ev_bipush (X := M_X12_product) (pc := 27) dX12_product_27 (by decide) ?_
      refine ev_icmp_ne (X := M_X12_product) (pc := 29) (tgt := 91) dX12_product_29 (by decide) (by omega) (by omega) (fun h29 => ?_) (fun h29 => ?_)
      · refine ev_iload_n (X := M_X12_product) (pc := 91) dX12_product_91 rfl ?_
        refine ev_iret (X := M_X12_product) (pc := 92) dX12_product_92 rfl ?_
        exact ⟨rfl, v, rfl, hxx (by show ¬ c ∈ ([42, 47, 37] : List Int); simp only [List.mem_cons, List.not_mem_nil, or_false]; omega)⟩
      · refine ev_aload_n (X := M_X12_product) (pc := 32) dX12_product_32 rfl ?_
        refine ev_virtR (X := M_X12_product) (Y := M_X12_here) (pc := 33) (ci := 12) dX12_product_33 mk_X12_here rfl kw_1130 kw_1132 kp_13 (lO_156 hL) (hhere) rfl (by omega) rfl (Nat.le_of_ble_eq_true rfl) (Nat.zero_add _) (Nat.zero_add _) ?_
        refine ev_istore_nL (X := M_X12_product) (pc := 36) (ls' := [_, _, _, _]) dX12_product_36 (by decide) rfl ?_
        refine ev_aload_n (X := M_X12_product) (pc := 37) dX12_product_37 rfl ?_
        refine ev_dup (X := M_X12_product) (pc := 38) dX12_product_38 (fun _ q => by cases q) ?_
        refine ev_getI (X := M_X12_product) (pc := 39) (ki := 5) dX12_product_39 fl_X12_94_12 (lO_156 hL) (by decide) rfl ?_
        refine ev_iconst (X := M_X12_product) (pc := 42) dX12_product_42 ?_
        refine ev_iadd (X := M_X12_product) (pc := 43) dX12_product_43 ?_
        refine ev_putI (X := M_X12_product) (pc := 44) (ki := 5) dX12_product_44 fl_X12_94_12 (by decide) (lO_156 hL) (fun _ h q => by cases h; cases q) (Or.inl rfl) rfl ?_
        obtain ⟨q, q1, q2, q3, q4, q5, q6, q7, hgo⟩ := hex c rfl (by first | (subst h11; decide) | (subst h20; decide) | (subst h29; decide) | (rw [h11]; decide) | (rw [h20]; decide) | (rw [h29]; decide))
        rw [q3]
        have m2 : mP V (wr W 156 5 (q + 1)) := b1.w (by omega) _
        have a2 : wr W 156 5 (q + 1) 156 5 = q + 1 := wr_self
        have f2 : wr W 156 5 (q + 1) 156 7 = -1 := by rw [wr_ne (by omega), q2]
        have o2 : wr W 156 5 (q + 1) 156 8 = 5 - k := by rw [wr_ne (by omega), q4, ho]
        generalize wr W 156 5 (q + 1) = W2 at *
        refine ev_aload_n (X := M_X12_product) (pc := 47) dX12_product_47 rfl ?_
        refine ev_virtZ (X := M_X12_product) (Y := M_X12_unit) (pc := 48) (ci := 12) dX12_product_48 mk_X12_unit rfl kw_1126 kw_1128 kp_12 (lO_156 hL) (ih W2 (h.mP m2) (by rw [a2]; omega) f2 o2) rfl (by omega) rfl (Nat.le_of_ble_eq_true rfl) (Nat.zero_add _) (Nat.zero_add _) (fun w W3 hW3 => ?_)
        have hw := hW3.2.1
        rw [a2] at hW3
        refine ev_istore_nL (X := M_X12_product) (pc := 51) (ls' := [_, _, _, _]) dX12_product_51 (by decide) rfl ?_
        refine ev_iload_n (X := M_X12_product) (pc := 52) dX12_product_52 rfl ?_
        refine ev_bipush (X := M_X12_product) (pc := 53) dX12_product_53 (by decide) ?_
        refine ev_icmp_ne (X := M_X12_product) (pc := 55) (tgt := 64) dX12_product_55 (by decide) (by omega) (by omega) (fun h55 => ?_) (fun h55 => ?_)
        · refine ev_iload_n (X := M_X12_product) (pc := 64) dX12_product_64 rfl ?_
          refine ev_if_ne (X := M_X12_product) (pc := 65) (tgt := 72) dX12_product_65 (by decide) (by omega) (fun h65 => ?_) (fun h65 => ?_)
          · refine ev_iload_n (X := M_X12_product) (pc := 72) dX12_product_72 rfl ?_
            refine ev_bipush (X := M_X12_product) (pc := 73) dX12_product_73 (by decide) ?_
            refine ev_icmp_ne (X := M_X12_product) (pc := 75) (tgt := 84) dX12_product_75 (by decide) (by omega) (by omega) (fun h75 => ?_) (fun h75 => ?_)
            · refine ev_iload_n (X := M_X12_product) (pc := 84) dX12_product_84 rfl ?_
              refine ev_iload_n (X := M_X12_product) (pc := 85) dX12_product_85 rfl ?_
              refine ev_iremg (X := M_X12_product) (pc := 86) dX12_product_86 (i32_ne0 hw h65) ?_
              refine ev_istore_nL (X := M_X12_product) (pc := 87) (ls' := [_, _, _, _]) dX12_product_87 (by decide) rfl ?_
              refine ev_goto (X := M_X12_product) (pc := 88) (tgt := 5) dX12_product_88 (by decide) ?_
              refine ev_weak (ih2 (fu - 1, jn c v w, W3) (hgo w W3 hW3) (by show fu - 1 < fu; omega)) ⟨rfl, congrArg vI ?_, trivial⟩
              unfold jn
              repeat' split
              all_goals first | rfl | omega
            · refine ev_iload_n (X := M_X12_product) (pc := 78) dX12_product_78 rfl ?_
              refine ev_iload_n (X := M_X12_product) (pc := 79) dX12_product_79 rfl ?_
              refine ev_idivg (X := M_X12_product) (pc := 80) dX12_product_80 (i32_ne0 hw h65) ?_
              refine ev_goto (X := M_X12_product) (pc := 81) (tgt := 87) dX12_product_81 (by decide) ?_
              refine ev_istore_nL (X := M_X12_product) (pc := 87) (ls' := [_, _, _, _]) dX12_product_87 (by decide) rfl ?_
              refine ev_goto (X := M_X12_product) (pc := 88) (tgt := 5) dX12_product_88 (by decide) ?_
              refine ev_weak (ih2 (fu - 1, jn c v w, W3) (hgo w W3 hW3) (by show fu - 1 < fu; omega)) ⟨rfl, congrArg vI ?_, trivial⟩
              unfold jn
              repeat' split
              all_goals first | rfl | omega
          · refine ev_iconst (X := M_X12_product) (pc := 68) dX12_product_68 ?_
            refine ev_goto (X := M_X12_product) (pc := 69) (tgt := 87) dX12_product_69 (by decide) ?_
            refine ev_istore_nL (X := M_X12_product) (pc := 87) (ls' := [_, _, _, _]) dX12_product_87 (by decide) rfl ?_
            refine ev_goto (X := M_X12_product) (pc := 88) (tgt := 5) dX12_product_88 (by decide) ?_
            refine ev_weak (ih2 (fu - 1, jn c v w, W3) (hgo w W3 hW3) (by show fu - 1 < fu; omega)) ⟨rfl, congrArg vI ?_, trivial⟩
            unfold jn
            repeat' split
            all_goals first | rfl | omega
        · refine ev_iload_n (X := M_X12_product) (pc := 58) dX12_product_58 rfl ?_
          refine ev_iload_n (X := M_X12_product) (pc := 59) dX12_product_59 rfl ?_
          refine ev_imul (X := M_X12_product) (pc := 60) dX12_product_60 ?_
          refine ev_nrm ?_
          refine ev_goto (X := M_X12_product) (pc := 61) (tgt := 87) dX12_product_61 (by decide) ?_
          refine ev_istore_nL (X := M_X12_product) (pc := 87) (ls' := [_, _, _, _]) dX12_product_87 (by decide) rfl ?_
          refine ev_goto (X := M_X12_product) (pc := 88) (tgt := 5) dX12_product_88 (by decide) ?_
          refine ev_weak (ih2 (fu - 1, jn c v w, W3) (hgo w W3 hW3) (by show fu - 1 < fu; omega)) ⟨rfl, congrArg vI ?_, trivial⟩
          unfold jn
          repeat' split
          all_goals first | rfl | omega
theorem m_sum {γ : Gh} {K : Sk} {V : Mm} {f nm : Int → Int} {n u : Int} {k : Nat} (ih : MLv M_X12_product γ K f nm n u k 1) (h : MT K V f nm n u) (hq : 0 ≤ V 156 5 ∧ V 156 5 ≤ n) (ha : V 156 7 = -1) (ho : V 156 8 = 5 - k) : Call γ M_X12_sum (2+6*k+2) 0 0 [vR 156] K V (Qz K (PM V nm n (lvl (prS f n u k) f n 2 (V 156 5)))) := by
  refine call_of (by decide +kernel) (by intro v hv; simp only [List.mem_cons, List.not_mem_nil, or_false] at hv; rcases hv with rfl <;> exact fun q => by cases q) (Nat.le_of_ble_eq_true rfl) ?_
  refine ev_lsE (ls' := [_, _, _, _]) rfl ?_
  have hL := h.1
  have hn5 := h.2.2.2.2.1
  have hBj := lvl_B (f := f) (prS_B (f := f) (n := n) (u := u) k) 1
  refine ev_aload_n (X := M_X12_sum) (pc := 0) dX12_sum_0 rfl ?_
  refine ev_virtZ (X := M_X12_sum) (Y := M_X12_product) (pc := 1) (ci := 12) dX12_sum_1 mk_X12_product rfl kw_1122 kw_1124 kp_11 (lO_156 hL) (ih V h hq ha ho) rfl (by omega) rfl (Nat.le_of_ble_eq_true rfl) (Nat.zero_add _) (Nat.zero_add _) (fun v0 W0 hW0 => ?_)
  refine ev_istore_nL (X := M_X12_sum) (pc := 4) (ls' := [_, _, _, _]) dX12_sum_4 (by decide) rfl ?_
  refine ev_weak (ev_while (σ := Nat × Int × Mm) (fun s => LI V nm n (lvl (prS f n u k) f n 1) f 1 (lvl (prS f n u k) f n 2 (V 156 5)) s.1 s.2.1 s.2.2) (fun s => s.1) (fun s => [vR 156, vI s.2.1, vU, vU]) (fun _ => K) (fun s => s.2.2) ?_ (50, v0, W0) (LI.init (by decide) hn5.2 hW0)) ⟨rfl, rfl, trivial⟩
  clear hW0 v0 W0
  rintro ⟨fu, v, W⟩ hI ih2
  dsimp only at hI ih2 ⊢
  obtain ⟨b1, b2, b3, b4⟩ := hI.base
  have hH := h.hh (W := W) b2.1
  have hhere := m_here (γ := γ) (h.mP b1) b2 b3
  have hex : ∀ c, hr f n W = c → c ∈ opsJ 1 → ∃ q, sgn f n q = c ∧ W 156 7 = -1 ∧ W 156 5 = q ∧ W 156 8 = V 156 8 ∧ mP V W ∧ (0 ≤ q ∧ q < n) ∧ 1 ≤ fu ∧ ∀ w W2, PM (wr W 156 5 (q + 1)) nm n (lvl (prS f n u k) f n 1 (q + 1)) w W2 → LI V nm n (lvl (prS f n u k) f n 1) f 1 (lvl (prS f n u k) f n 2 (V 156 5)) (fu - 1) (jn c v w) W2 := fun c e hc => by
    obtain ⟨q, e1, e2⟩ := hI.go hBj (by rw [e]; exact hc)
    refine ⟨q, by rw [← e1, e], ?_⟩
    rw [← e1, e] at e2
    exact e2
  have hxx := hI.exit
  generalize hr f n W = c at *
  refine ev_aload_n (X := M_X12_sum) (pc := 5) dX12_sum_5 rfl ?_
  refine ev_virtR (X := M_X12_sum) (Y := M_X12_here) (pc := 6) (ci := 12) dX12_sum_6 mk_X12_here rfl kw_1130 kw_1132 kp_13 (lO_156 hL) (hhere) rfl (by omega) rfl (Nat.le_of_ble_eq_true rfl) (Nat.zero_add _) (Nat.zero_add _) ?_
  refine ev_bipush (X := M_X12_sum) (pc := 9) dX12_sum_9 (by decide) ?_
  refine ev_icmp_eq (X := M_X12_sum) (pc := 11) (tgt := 23) dX12_sum_11 (by decide) (by omega) (by omega) (fun h11 => ?_) (fun h11 => ?_)
  · refine ev_aload_n (X := M_X12_sum) (pc := 23) dX12_sum_23 rfl ?_
    refine ev_virtR (X := M_X12_sum) (Y := M_X12_here) (pc := 24) (ci := 12) dX12_sum_24 mk_X12_here rfl kw_1130 kw_1132 kp_13 (lO_156 hL) (hhere) rfl (by omega) rfl (Nat.le_of_ble_eq_true rfl) (Nat.zero_add _) (Nat.zero_add _) ?_
    refine ev_istore_nL (X := M_X12_sum) (pc := 27) (ls' := [_, _, _, _]) dX12_sum_27 (by decide) rfl ?_
    refine ev_aload_n (X := M_X12_sum) (pc := 28) dX12_sum_28 rfl ?_
    refine ev_dup (X := M_X12_sum) (pc := 29) dX12_sum_29 (fun _ q => by cases q) ?_
    refine ev_getI (X := M_X12_sum) (pc := 30) (ki := 5) dX12_sum_30 fl_X12_94_12 (lO_156 hL) (by decide) rfl ?_
    refine ev_iconst (X := M_X12_sum) (pc := 33) dX12_sum_33 ?_
    refine ev_iadd (X := M_X12_sum) (pc := 34) dX12_sum_34 ?_
    refine ev_putI (X := M_X12_sum) (pc := 35) (ki := 5) dX12_sum_35 fl_X12_94_12 (by decide) (lO_156 hL) (fun _ h q => by cases h; cases q) (Or.inl rfl) rfl ?_
    obtain ⟨q, q1, q2, q3, q4, q5, q6, q7, hgo⟩ := hex c rfl (by first | (subst h11; decide) | (subst h20; decide) | (subst h29; decide) | (rw [h11]; decide) | (rw [h20]; decide) | (rw [h29]; decide))
    rw [q3]
    have m2 : mP V (wr W 156 5 (q + 1)) := b1.w (by omega) _
    have a2 : wr W 156 5 (q + 1) 156 5 = q + 1 := wr_self
    have f2 : wr W 156 5 (q + 1) 156 7 = -1 := by rw [wr_ne (by omega), q2]
    have o2 : wr W 156 5 (q + 1) 156 8 = 5 - k := by rw [wr_ne (by omega), q4, ho]
    generalize wr W 156 5 (q + 1) = W2 at *
    refine ev_aload_n (X := M_X12_sum) (pc := 38) dX12_sum_38 rfl ?_
    refine ev_virtZ (X := M_X12_sum) (Y := M_X12_product) (pc := 39) (ci := 12) dX12_sum_39 mk_X12_product rfl kw_1122 kw_1124 kp_11 (lO_156 hL) (ih W2 (h.mP m2) (by rw [a2]; omega) f2 o2) rfl (by omega) rfl (Nat.le_of_ble_eq_true rfl) (Nat.zero_add _) (Nat.zero_add _) (fun w W3 hW3 => ?_)
    have hw := hW3.2.1
    rw [a2] at hW3
    refine ev_istore_nL (X := M_X12_sum) (pc := 42) (ls' := [_, _, _, _]) dX12_sum_42 (by decide) rfl ?_
    refine ev_iload_n (X := M_X12_sum) (pc := 43) dX12_sum_43 rfl ?_
    refine ev_bipush (X := M_X12_sum) (pc := 44) dX12_sum_44 (by decide) ?_
    refine ev_icmp_ne (X := M_X12_sum) (pc := 46) (tgt := 55) dX12_sum_46 (by decide) (by omega) (by omega) (fun h46 => ?_) (fun h46 => ?_)
    · refine ev_iload_n (X := M_X12_sum) (pc := 55) dX12_sum_55 rfl ?_
      refine ev_iload_n (X := M_X12_sum) (pc := 56) dX12_sum_56 rfl ?_
      refine ev_isub (X := M_X12_sum) (pc := 57) dX12_sum_57 ?_
      refine ev_nrm ?_
      refine ev_istore_nL (X := M_X12_sum) (pc := 58) (ls' := [_, _, _, _]) dX12_sum_58 (by decide) rfl ?_
      refine ev_goto (X := M_X12_sum) (pc := 59) (tgt := 5) dX12_sum_59 (by decide) ?_
      refine ev_weak (ih2 (fu - 1, jn c v w, W3) (hgo w W3 hW3) (by show fu - 1 < fu; omega)) ⟨rfl, congrArg vI ?_, trivial⟩
      unfold jn
      repeat' split
      all_goals first | rfl | omega
    · refine ev_iload_n (X := M_X12_sum) (pc := 49) dX12_sum_49 rfl ?_
      refine ev_iload_n (X := M_X12_sum) (pc := 50) dX12_sum_50 rfl ?_
      refine ev_iadd (X := M_X12_sum) (pc := 51) dX12_sum_51 ?_
      refine ev_nrm ?_
      refine ev_goto (X := M_X12_sum) (pc := 52) (tgt := 58) dX12_sum_52 (by decide) ?_
      refine ev_istore_nL (X := M_X12_sum) (pc := 58) (ls' := [_, _, _, _]) dX12_sum_58 (by decide) rfl ?_
      refine ev_goto (X := M_X12_sum) (pc := 59) (tgt := 5) dX12_sum_59 (by decide) ?_
      refine ev_weak (ih2 (fu - 1, jn c v w, W3) (hgo w W3 hW3) (by show fu - 1 < fu; omega)) ⟨rfl, congrArg vI ?_, trivial⟩
      unfold jn
      repeat' split
      all_goals first | rfl | omega
  · refine ev_aload_n (X := M_X12_sum) (pc := 14) dX12_sum_14 rfl ?_
    refine ev_virtR (X := M_X12_sum) (Y := M_X12_here) (pc := 15) (ci := 12) dX12_sum_15 mk_X12_here rfl kw_1130 kw_1132 kp_13 (lO_156 hL) (hhere) rfl (by omega) rfl (Nat.le_of_ble_eq_true rfl) (Nat.zero_add _) (Nat.zero_add _) ?_
    refine ev_bipush (X := M_X12_sum) (pc := 18) dX12_sum_18 (by decide) ?_
    refine ev_icmp_ne (X := M_X12_sum) (pc := 20) (tgt := 62) dX12_sum_20 (by decide) (by omega) (by omega) (fun h20 => ?_) (fun h20 => ?_)
    · refine ev_iload_n (X := M_X12_sum) (pc := 62) dX12_sum_62 rfl ?_
      refine ev_iret (X := M_X12_sum) (pc := 63) dX12_sum_63 rfl ?_
      exact ⟨rfl, v, rfl, hxx (by show ¬ c ∈ ([43, 45] : List Int); simp only [List.mem_cons, List.not_mem_nil, or_false]; omega)⟩
    · refine ev_aload_n (X := M_X12_sum) (pc := 23) dX12_sum_23 rfl ?_
      refine ev_virtR (X := M_X12_sum) (Y := M_X12_here) (pc := 24) (ci := 12) dX12_sum_24 mk_X12_here rfl kw_1130 kw_1132 kp_13 (lO_156 hL) (hhere) rfl (by omega) rfl (Nat.le_of_ble_eq_true rfl) (Nat.zero_add _) (Nat.zero_add _) ?_
      refine ev_istore_nL (X := M_X12_sum) (pc := 27) (ls' := [_, _, _, _]) dX12_sum_27 (by decide) rfl ?_
      refine ev_aload_n (X := M_X12_sum) (pc := 28) dX12_sum_28 rfl ?_
      refine ev_dup (X := M_X12_sum) (pc := 29) dX12_sum_29 (fun _ q => by cases q) ?_
      refine ev_getI (X := M_X12_sum) (pc := 30) (ki := 5) dX12_sum_30 fl_X12_94_12 (lO_156 hL) (by decide) rfl ?_
      refine ev_iconst (X := M_X12_sum) (pc := 33) dX12_sum_33 ?_
      refine ev_iadd (X := M_X12_sum) (pc := 34) dX12_sum_34 ?_
      refine ev_putI (X := M_X12_sum) (pc := 35) (ki := 5) dX12_sum_35 fl_X12_94_12 (by decide) (lO_156 hL) (fun _ h q => by cases h; cases q) (Or.inl rfl) rfl ?_
      obtain ⟨q, q1, q2, q3, q4, q5, q6, q7, hgo⟩ := hex c rfl (by first | (subst h11; decide) | (subst h20; decide) | (subst h29; decide) | (rw [h11]; decide) | (rw [h20]; decide) | (rw [h29]; decide))
      rw [q3]
      have m2 : mP V (wr W 156 5 (q + 1)) := b1.w (by omega) _
      have a2 : wr W 156 5 (q + 1) 156 5 = q + 1 := wr_self
      have f2 : wr W 156 5 (q + 1) 156 7 = -1 := by rw [wr_ne (by omega), q2]
      have o2 : wr W 156 5 (q + 1) 156 8 = 5 - k := by rw [wr_ne (by omega), q4, ho]
      generalize wr W 156 5 (q + 1) = W2 at *
      refine ev_aload_n (X := M_X12_sum) (pc := 38) dX12_sum_38 rfl ?_
      refine ev_virtZ (X := M_X12_sum) (Y := M_X12_product) (pc := 39) (ci := 12) dX12_sum_39 mk_X12_product rfl kw_1122 kw_1124 kp_11 (lO_156 hL) (ih W2 (h.mP m2) (by rw [a2]; omega) f2 o2) rfl (by omega) rfl (Nat.le_of_ble_eq_true rfl) (Nat.zero_add _) (Nat.zero_add _) (fun w W3 hW3 => ?_)
      have hw := hW3.2.1
      rw [a2] at hW3
      refine ev_istore_nL (X := M_X12_sum) (pc := 42) (ls' := [_, _, _, _]) dX12_sum_42 (by decide) rfl ?_
      refine ev_iload_n (X := M_X12_sum) (pc := 43) dX12_sum_43 rfl ?_
      refine ev_bipush (X := M_X12_sum) (pc := 44) dX12_sum_44 (by decide) ?_
      refine ev_icmp_ne (X := M_X12_sum) (pc := 46) (tgt := 55) dX12_sum_46 (by decide) (by omega) (by omega) (fun h46 => ?_) (fun h46 => ?_)
      · refine ev_iload_n (X := M_X12_sum) (pc := 55) dX12_sum_55 rfl ?_
        refine ev_iload_n (X := M_X12_sum) (pc := 56) dX12_sum_56 rfl ?_
        refine ev_isub (X := M_X12_sum) (pc := 57) dX12_sum_57 ?_
        refine ev_nrm ?_
        refine ev_istore_nL (X := M_X12_sum) (pc := 58) (ls' := [_, _, _, _]) dX12_sum_58 (by decide) rfl ?_
        refine ev_goto (X := M_X12_sum) (pc := 59) (tgt := 5) dX12_sum_59 (by decide) ?_
        refine ev_weak (ih2 (fu - 1, jn c v w, W3) (hgo w W3 hW3) (by show fu - 1 < fu; omega)) ⟨rfl, congrArg vI ?_, trivial⟩
        unfold jn
        repeat' split
        all_goals first | rfl | omega
      · refine ev_iload_n (X := M_X12_sum) (pc := 49) dX12_sum_49 rfl ?_
        refine ev_iload_n (X := M_X12_sum) (pc := 50) dX12_sum_50 rfl ?_
        refine ev_iadd (X := M_X12_sum) (pc := 51) dX12_sum_51 ?_
        refine ev_nrm ?_
        refine ev_goto (X := M_X12_sum) (pc := 52) (tgt := 58) dX12_sum_52 (by decide) ?_
        refine ev_istore_nL (X := M_X12_sum) (pc := 58) (ls' := [_, _, _, _]) dX12_sum_58 (by decide) rfl ?_
        refine ev_goto (X := M_X12_sum) (pc := 59) (tgt := 5) dX12_sum_59 (by decide) ?_
        refine ev_weak (ih2 (fu - 1, jn c v w, W3) (hgo w W3 hW3) (by show fu - 1 < fu; omega)) ⟨rfl, congrArg vI ?_, trivial⟩
        unfold jn
        repeat' split
        all_goals first | rfl | omega
theorem m_compared {γ : Gh} {K : Sk} {V : Mm} {f nm : Int → Int} {n u : Int} {k : Nat} (ih : MLv M_X12_sum γ K f nm n u k 2) (h : MT K V f nm n u) (hq : 0 ≤ V 156 5 ∧ V 156 5 ≤ n) (ha : V 156 7 = -1) (ho : V 156 8 = 5 - k) : Call γ M_X12_compared (2+6*k+3) 0 0 [vR 156] K V (Qz K (PM V nm n (lvl (prS f n u k) f n 3 (V 156 5)))) := by
  refine call_of (by decide +kernel) (by intro v hv; simp only [List.mem_cons, List.not_mem_nil, or_false] at hv; rcases hv with rfl <;> exact fun q => by cases q) (Nat.le_of_ble_eq_true rfl) ?_
  refine ev_lsE (ls' := [_, _, _, _]) rfl ?_
  have hL := h.1
  have hn5 := h.2.2.2.2.1
  have hBj := lvl_B (f := f) (prS_B (f := f) (n := n) (u := u) k) 2
  have hR : lvl (prS f n u k) f n 3 (V 156 5) = andR (lvl (prS f n u k) f n 2 (V 156 5)) (fun l q' => lp (lvl (prS f n u k) f n 2) f n 2 1 l q') := rfl
  refine ev_aload_n (X := M_X12_compared) (pc := 0) dX12_compared_0 rfl ?_
  refine ev_virtZ (X := M_X12_compared) (Y := M_X12_sum) (pc := 1) (ci := 12) dX12_compared_1 mk_X12_sum rfl kw_1118 kw_1120 kp_10 (lO_156 hL) (ih V h hq ha ho) rfl (by omega) rfl (Nat.le_of_ble_eq_true rfl) (Nat.zero_add _) (Nat.zero_add _) (fun v W hW => ?_)
  generalize hr0 : lvl (prS f n u k) f n 2 (V 156 5) = r at *
  have b1 := hW.1
  have b2 := hW.2.2.1
  have b3 := hW.ft
  have b4 := hW.2.1
  have hH := h.hh (W := W) b2.1
  have hex : ¬ hr f n W ∈ opsJ 2 → PM V nm n (lvl (prS f n u k) f n 3 (V 156 5)) v W := fun hx => by
    obtain ⟨o, q⟩ := r
    rw [hR]
    cases o with
    | none => exact hW
    | some l =>
      have e : hr f n W = sgn f n q := by
        obtain ⟨_, _, _, p7, p5, _⟩ := hW
        unfold hr
        rw [if_pos (by omega), p5]
      rw [e] at hx
      show PM V nm n (lp (lvl (prS f n u k) f n 2) f n 2 1 l q) v W
      rw [lp_e (Or.inr hx)]
      exact hW
  have hgo : hr f n W ∈ opsJ 2 → ∃ l q, r = (some l, q) ∧ hr f n W = sgn f n q ∧ W 156 7 = -1 ∧ W 156 5 = q ∧ W 156 8 = V 156 8 ∧ (0 ≤ q ∧ q < n) := fun hx => by
    have hpo := ops_pos hx
    obtain ⟨o, q⟩ := r
    cases o with
    | none =>
      exfalso
      obtain ⟨_, _, _, p7, p5, _⟩ := hW
      have : hr f n W = -1 := by unfold hr; rw [if_neg (by omega)]
      omega
    | some l =>
      obtain ⟨_, _, _, p7, p5, p8, _⟩ := hW
      have e : hr f n W = sgn f n q := by
        unfold hr
        rw [if_pos (by omega), p5]
      have hqn := (sgn_in (f := f) (n := n) (q := q) (by omega)).1
      exact ⟨l, q, rfl, e, p7, p5, p8, by omega, hqn⟩
  have hhere := m_here (γ := γ) (h.mP b1) b2 b3
  generalize hr f n W = c at *
  refine ev_istore_nL (X := M_X12_compared) (pc := 4) (ls' := [_, _, _, _]) dX12_compared_4 (by decide) rfl ?_
  refine ev_aload_n (X := M_X12_compared) (pc := 5) dX12_compared_5 rfl ?_
  refine ev_virtR (X := M_X12_compared) (Y := M_X12_here) (pc := 6) (ci := 12) dX12_compared_6 mk_X12_here rfl kw_1130 kw_1132 kp_13 (lO_156 hL) (hhere) rfl (by omega) rfl (Nat.le_of_ble_eq_true rfl) (Nat.zero_add _) (Nat.zero_add _) ?_
  refine ev_istore_nL (X := M_X12_compared) (pc := 9) (ls' := [_, _, _, _]) dX12_compared_9 (by decide) rfl ?_
  refine ev_iload_n (X := M_X12_compared) (pc := 10) dX12_compared_10 rfl ?_
  refine ev_bipush (X := M_X12_compared) (pc := 11) dX12_compared_11 (by decide) ?_
  refine ev_icmp_eq (X := M_X12_compared) (pc := 13) (tgt := 30) dX12_compared_13 (by decide) (by omega) (by omega) (fun h13 => ?_) (fun h13 => ?_)
  · refine ev_aload_n (X := M_X12_compared) (pc := 30) dX12_compared_30 rfl ?_
    refine ev_dup (X := M_X12_compared) (pc := 31) dX12_compared_31 (fun _ q => by cases q) ?_
    refine ev_getI (X := M_X12_compared) (pc := 32) (ki := 5) dX12_compared_32 fl_X12_94_12 (lO_156 hL) (by decide) rfl ?_
    refine ev_iconst (X := M_X12_compared) (pc := 35) dX12_compared_35 ?_
    refine ev_iadd (X := M_X12_compared) (pc := 36) dX12_compared_36 ?_
    refine ev_putI (X := M_X12_compared) (pc := 37) (ki := 5) dX12_compared_37 fl_X12_94_12 (by decide) (lO_156 hL) (fun _ h q => by cases h; cases q) (Or.inl rfl) rfl ?_
    have hcm : c ∈ opsJ 2 := by first | (rw [h13]; decide) | (rw [h19]; decide) | (rw [h25]; decide)
    have hpo := ops_pos hcm
    obtain ⟨l, q, hr1, q1, q2, q3, q4, q6⟩ := hgo hcm
    rw [hr1] at hR hW
    rw [q3]
    have m2 : mP V (wr W 156 5 (q + 1)) := b1.w (by omega) _
    have a2 : wr W 156 5 (q + 1) 156 5 = q + 1 := wr_self
    have f2 : wr W 156 5 (q + 1) 156 7 = -1 := by rw [wr_ne (by omega), q2]
    have o2 : wr W 156 5 (q + 1) 156 8 = 5 - k := by rw [wr_ne (by omega), q4, ho]
    have o3 : wr W 156 5 (q + 1) 156 8 = V 156 8 := by rw [wr_ne (by omega), q4]
    generalize wr W 156 5 (q + 1) = W2 at *
    refine ev_aload_n (X := M_X12_compared) (pc := 40) dX12_compared_40 rfl ?_
    refine ev_virtZ (X := M_X12_compared) (Y := M_X12_sum) (pc := 41) (ci := 12) dX12_compared_41 mk_X12_sum rfl kw_1118 kw_1120 kp_10 (lO_156 hL) (ih W2 (h.mP m2) (by rw [a2]; omega) f2 o2) rfl (by omega) rfl (Nat.le_of_ble_eq_true rfl) (Nat.zero_add _) (Nat.zero_add _) (fun w W3 hW3 => ?_)
    have hw := hW3.2.1
    rw [a2] at hW3
    have fin : PM V nm n (lvl (prS f n u k) f n 3 (V 156 5)) (jn c v w) W3 := by
      have hR2 : lvl (prS f n u k) f n 3 (V 156 5) = lp (lvl (prS f n u k) f n 2) f n 2 1 l q := hR
      rw [lp_s (by rw [← q1]; exact hcm), ← q1] at hR2
      rw [hR2]
      generalize lvl (prS f n u k) f n 2 (q + 1) = r2 at *
      obtain ⟨o2', q'⟩ := r2
      cases o2' with
      | none =>
        obtain ⟨a1, a2', a3, a4, a5, a6⟩ := hW3
        exact ⟨m2.tr a1, jn_r, a3, a4, a5, a6⟩
      | some m =>
        obtain ⟨a1, a2', a3, a4, a5, a6, a7⟩ := hW3
        refine ⟨m2.tr a1, jn_r, a3, a4, a5, by rw [a6, o3], ?_⟩
        exact hW.2.2.2.2.2.2.bin a7 hpo.1
    refine ev_istore_nL (X := M_X12_compared) (pc := 44) (ls' := [_, _, _, _]) dX12_compared_44 (by decide) rfl ?_
    refine ev_iload_n (X := M_X12_compared) (pc := 45) dX12_compared_45 rfl ?_
    refine ev_bipush (X := M_X12_compared) (pc := 46) dX12_compared_46 (by decide) ?_
    refine ev_icmp_ne (X := M_X12_compared) (pc := 48) (tgt := 59) dX12_compared_48 (by decide) (by omega) (by omega) (fun h48 => ?_) (fun h48 => ?_)
    · refine ev_iload_n (X := M_X12_compared) (pc := 59) dX12_compared_59 rfl ?_
      refine ev_bipush (X := M_X12_compared) (pc := 60) dX12_compared_60 (by decide) ?_
      refine ev_icmp_ne (X := M_X12_compared) (pc := 62) (tgt := 73) dX12_compared_62 (by decide) (by omega) (by omega) (fun h62 => ?_) (fun h62 => ?_)
      · refine ev_iload_n (X := M_X12_compared) (pc := 73) dX12_compared_73 rfl ?_
        refine ev_iload_n (X := M_X12_compared) (pc := 74) dX12_compared_74 rfl ?_
        refine ev_icmp_le (X := M_X12_compared) (pc := 75) (tgt := 82) dX12_compared_75 (by decide) (by omega) (by omega) (fun h75 => ?_) (fun h75 => ?_)
        · refine ev_iconst (X := M_X12_compared) (pc := 82) dX12_compared_82 ?_
          refine ev_iret (X := M_X12_compared) (pc := 83) dX12_compared_83 rfl ?_
          refine ⟨rfl, jn c v w, congrArg (fun z => some (vI z)) ?_, fin⟩
          unfold jn
          repeat' split
          all_goals first | rfl | omega
        · refine ev_iconst (X := M_X12_compared) (pc := 78) dX12_compared_78 ?_
          refine ev_goto (X := M_X12_compared) (pc := 79) (tgt := 83) dX12_compared_79 (by decide) ?_
          refine ev_iret (X := M_X12_compared) (pc := 83) dX12_compared_83 rfl ?_
          refine ⟨rfl, jn c v w, congrArg (fun z => some (vI z)) ?_, fin⟩
          unfold jn
          repeat' split
          all_goals first | rfl | omega
      · refine ev_iload_n (X := M_X12_compared) (pc := 65) dX12_compared_65 rfl ?_
        refine ev_iload_n (X := M_X12_compared) (pc := 66) dX12_compared_66 rfl ?_
        refine ev_icmp_ne (X := M_X12_compared) (pc := 67) (tgt := 82) dX12_compared_67 (by decide) (by omega) (by omega) (fun h67 => ?_) (fun h67 => ?_)
        · refine ev_iconst (X := M_X12_compared) (pc := 82) dX12_compared_82 ?_
          refine ev_iret (X := M_X12_compared) (pc := 83) dX12_compared_83 rfl ?_
          refine ⟨rfl, jn c v w, congrArg (fun z => some (vI z)) ?_, fin⟩
          unfold jn
          repeat' split
          all_goals first | rfl | omega
        · refine ev_goto (X := M_X12_compared) (pc := 70) (tgt := 78) dX12_compared_70 (by decide) ?_
          refine ev_iconst (X := M_X12_compared) (pc := 78) dX12_compared_78 ?_
          refine ev_goto (X := M_X12_compared) (pc := 79) (tgt := 83) dX12_compared_79 (by decide) ?_
          refine ev_iret (X := M_X12_compared) (pc := 83) dX12_compared_83 rfl ?_
          refine ⟨rfl, jn c v w, congrArg (fun z => some (vI z)) ?_, fin⟩
          unfold jn
          repeat' split
          all_goals first | rfl | omega
    · refine ev_iload_n (X := M_X12_compared) (pc := 51) dX12_compared_51 rfl ?_
      refine ev_iload_n (X := M_X12_compared) (pc := 52) dX12_compared_52 rfl ?_
      refine ev_icmp_ge (X := M_X12_compared) (pc := 53) (tgt := 82) dX12_compared_53 (by decide) (by omega) (by omega) (fun h53 => ?_) (fun h53 => ?_)
      · refine ev_iconst (X := M_X12_compared) (pc := 82) dX12_compared_82 ?_
        refine ev_iret (X := M_X12_compared) (pc := 83) dX12_compared_83 rfl ?_
        refine ⟨rfl, jn c v w, congrArg (fun z => some (vI z)) ?_, fin⟩
        unfold jn
        repeat' split
        all_goals first | rfl | omega
      · refine ev_goto (X := M_X12_compared) (pc := 56) (tgt := 78) dX12_compared_56 (by decide) ?_
        refine ev_iconst (X := M_X12_compared) (pc := 78) dX12_compared_78 ?_
        refine ev_goto (X := M_X12_compared) (pc := 79) (tgt := 83) dX12_compared_79 (by decide) ?_
        refine ev_iret (X := M_X12_compared) (pc := 83) dX12_compared_83 rfl ?_
        refine ⟨rfl, jn c v w, congrArg (fun z => some (vI z)) ?_, fin⟩
        unfold jn
        repeat' split
        all_goals first | rfl | omega
  · refine ev_iload_n (X := M_X12_compared) (pc := 16) dX12_compared_16 rfl ?_
    refine ev_bipush (X := M_X12_compared) (pc := 17) dX12_compared_17 (by decide) ?_
    refine ev_icmp_eq (X := M_X12_compared) (pc := 19) (tgt := 30) dX12_compared_19 (by decide) (by omega) (by omega) (fun h19 => ?_) (fun h19 => ?_)
    · refine ev_aload_n (X := M_X12_compared) (pc := 30) dX12_compared_30 rfl ?_
      refine ev_dup (X := M_X12_compared) (pc := 31) dX12_compared_31 (fun _ q => by cases q) ?_
      refine ev_getI (X := M_X12_compared) (pc := 32) (ki := 5) dX12_compared_32 fl_X12_94_12 (lO_156 hL) (by decide) rfl ?_
      refine ev_iconst (X := M_X12_compared) (pc := 35) dX12_compared_35 ?_
      refine ev_iadd (X := M_X12_compared) (pc := 36) dX12_compared_36 ?_
      refine ev_putI (X := M_X12_compared) (pc := 37) (ki := 5) dX12_compared_37 fl_X12_94_12 (by decide) (lO_156 hL) (fun _ h q => by cases h; cases q) (Or.inl rfl) rfl ?_
      have hcm : c ∈ opsJ 2 := by first | (rw [h13]; decide) | (rw [h19]; decide) | (rw [h25]; decide)
      have hpo := ops_pos hcm
      obtain ⟨l, q, hr1, q1, q2, q3, q4, q6⟩ := hgo hcm
      rw [hr1] at hR hW
      rw [q3]
      have m2 : mP V (wr W 156 5 (q + 1)) := b1.w (by omega) _
      have a2 : wr W 156 5 (q + 1) 156 5 = q + 1 := wr_self
      have f2 : wr W 156 5 (q + 1) 156 7 = -1 := by rw [wr_ne (by omega), q2]
      have o2 : wr W 156 5 (q + 1) 156 8 = 5 - k := by rw [wr_ne (by omega), q4, ho]
      have o3 : wr W 156 5 (q + 1) 156 8 = V 156 8 := by rw [wr_ne (by omega), q4]
      generalize wr W 156 5 (q + 1) = W2 at *
      refine ev_aload_n (X := M_X12_compared) (pc := 40) dX12_compared_40 rfl ?_
      refine ev_virtZ (X := M_X12_compared) (Y := M_X12_sum) (pc := 41) (ci := 12) dX12_compared_41 mk_X12_sum rfl kw_1118 kw_1120 kp_10 (lO_156 hL) (ih W2 (h.mP m2) (by rw [a2]; omega) f2 o2) rfl (by omega) rfl (Nat.le_of_ble_eq_true rfl) (Nat.zero_add _) (Nat.zero_add _) (fun w W3 hW3 => ?_)
      have hw := hW3.2.1
      rw [a2] at hW3
      have fin : PM V nm n (lvl (prS f n u k) f n 3 (V 156 5)) (jn c v w) W3 := by
        have hR2 : lvl (prS f n u k) f n 3 (V 156 5) = lp (lvl (prS f n u k) f n 2) f n 2 1 l q := hR
        rw [lp_s (by rw [← q1]; exact hcm), ← q1] at hR2
        rw [hR2]
        generalize lvl (prS f n u k) f n 2 (q + 1) = r2 at *
        obtain ⟨o2', q'⟩ := r2
        cases o2' with
        | none =>
          obtain ⟨a1, a2', a3, a4, a5, a6⟩ := hW3
          exact ⟨m2.tr a1, jn_r, a3, a4, a5, a6⟩
        | some m =>
          obtain ⟨a1, a2', a3, a4, a5, a6, a7⟩ := hW3
          refine ⟨m2.tr a1, jn_r, a3, a4, a5, by rw [a6, o3], ?_⟩
          exact hW.2.2.2.2.2.2.bin a7 hpo.1
      refine ev_istore_nL (X := M_X12_compared) (pc := 44) (ls' := [_, _, _, _]) dX12_compared_44 (by decide) rfl ?_
      refine ev_iload_n (X := M_X12_compared) (pc := 45) dX12_compared_45 rfl ?_
      refine ev_bipush (X := M_X12_compared) (pc := 46) dX12_compared_46 (by decide) ?_
      refine ev_icmp_ne (X := M_X12_compared) (pc := 48) (tgt := 59) dX12_compared_48 (by decide) (by omega) (by omega) (fun h48 => ?_) (fun h48 => ?_)
      · refine ev_iload_n (X := M_X12_compared) (pc := 59) dX12_compared_59 rfl ?_
        refine ev_bipush (X := M_X12_compared) (pc := 60) dX12_compared_60 (by decide) ?_
        refine ev_icmp_ne (X := M_X12_compared) (pc := 62) (tgt := 73) dX12_compared_62 (by decide) (by omega) (by omega) (fun h62 => ?_) (fun h62 => ?_)
        · refine ev_iload_n (X := M_X12_compared) (pc := 73) dX12_compared_73 rfl ?_
          refine ev_iload_n (X := M_X12_compared) (pc := 74) dX12_compared_74 rfl ?_
          refine ev_icmp_le (X := M_X12_compared) (pc := 75) (tgt := 82) dX12_compared_75 (by decide) (by omega) (by omega) (fun h75 => ?_) (fun h75 => ?_)
          · refine ev_iconst (X := M_X12_compared) (pc := 82) dX12_compared_82 ?_
            refine ev_iret (X := M_X12_compared) (pc := 83) dX12_compared_83 rfl ?_
            refine ⟨rfl, jn c v w, congrArg (fun z => some (vI z)) ?_, fin⟩
            unfold jn
            repeat' split
            all_goals first | rfl | omega
          · refine ev_iconst (X := M_X12_compared) (pc := 78) dX12_compared_78 ?_
            refine ev_goto (X := M_X12_compared) (pc := 79) (tgt := 83) dX12_compared_79 (by decide) ?_
            refine ev_iret (X := M_X12_compared) (pc := 83) dX12_compared_83 rfl ?_
            refine ⟨rfl, jn c v w, congrArg (fun z => some (vI z)) ?_, fin⟩
            unfold jn
            repeat' split
            all_goals first | rfl | omega
        · refine ev_iload_n (X := M_X12_compared) (pc := 65) dX12_compared_65 rfl ?_
          refine ev_iload_n (X := M_X12_compared) (pc := 66) dX12_compared_66 rfl ?_
          refine ev_icmp_ne (X := M_X12_compared) (pc := 67) (tgt := 82) dX12_compared_67 (by decide) (by omega) (by omega) (fun h67 => ?_) (fun h67 => ?_)
          · refine ev_iconst (X := M_X12_compared) (pc := 82) dX12_compared_82 ?_
            refine ev_iret (X := M_X12_compared) (pc := 83) dX12_compared_83 rfl ?_
            refine ⟨rfl, jn c v w, congrArg (fun z => some (vI z)) ?_, fin⟩
            unfold jn
            repeat' split
            all_goals first | rfl | omega
          · refine ev_goto (X := M_X12_compared) (pc := 70) (tgt := 78) dX12_compared_70 (by decide) ?_
            refine ev_iconst (X := M_X12_compared) (pc := 78) dX12_compared_78 ?_
            refine ev_goto (X := M_X12_compared) (pc := 79) (tgt := 83) dX12_compared_79 (by decide) ?_
            refine ev_iret (X := M_X12_compared) (pc := 83) dX12_compared_83 rfl ?_
            refine ⟨rfl, jn c v w, congrArg (fun z => some (vI z)) ?_, fin⟩
            unfold jn
            repeat' split
            all_goals first | rfl | omega
      · refine ev_iload_n (X := M_X12_compared) (pc := 51) dX12_compared_51 rfl ?_
        refine ev_iload_n (X := M_X12_compared) (pc := 52) dX12_compared_52 rfl ?_
        refine ev_icmp_ge (X := M_X12_compared) (pc := 53) (tgt := 82) dX12_compared_53 (by decide) (by omega) (by omega) (fun h53 => ?_) (fun h53 => ?_)
        · refine ev_iconst (X := M_X12_compared) (pc := 82) dX12_compared_82 ?_
          refine ev_iret (X := M_X12_compared) (pc := 83) dX12_compared_83 rfl ?_
          refine ⟨rfl, jn c v w, congrArg (fun z => some (vI z)) ?_, fin⟩
          unfold jn
          repeat' split
          all_goals first | rfl | omega
        · refine ev_goto (X := M_X12_compared) (pc := 56) (tgt := 78) dX12_compared_56 (by decide) ?_
          refine ev_iconst (X := M_X12_compared) (pc := 78) dX12_compared_78 ?_
          refine ev_goto (X := M_X12_compared) (pc := 79) (tgt := 83) dX12_compared_79 (by decide) ?_
          refine ev_iret (X := M_X12_compared) (pc := 83) dX12_compared_83 rfl ?_
          refine ⟨rfl, jn c v w, congrArg (fun z => some (vI z)) ?_, fin⟩
          unfold jn
          repeat' split
          all_goals first | rfl | omega
    · refine ev_iload_n (X := M_X12_compared) (pc := 22) dX12_compared_22 rfl ?_
      refine ev_bipush (X := M_X12_compared) (pc := 23) dX12_compared_23 (by decide) ?_
      refine ev_icmp_eq (X := M_X12_compared) (pc := 25) (tgt := 30) dX12_compared_25 (by decide) (by omega) (by omega) (fun h25 => ?_) (fun h25 => ?_)
      · refine ev_aload_n (X := M_X12_compared) (pc := 30) dX12_compared_30 rfl ?_
        refine ev_dup (X := M_X12_compared) (pc := 31) dX12_compared_31 (fun _ q => by cases q) ?_
        refine ev_getI (X := M_X12_compared) (pc := 32) (ki := 5) dX12_compared_32 fl_X12_94_12 (lO_156 hL) (by decide) rfl ?_
        refine ev_iconst (X := M_X12_compared) (pc := 35) dX12_compared_35 ?_
        refine ev_iadd (X := M_X12_compared) (pc := 36) dX12_compared_36 ?_
        refine ev_putI (X := M_X12_compared) (pc := 37) (ki := 5) dX12_compared_37 fl_X12_94_12 (by decide) (lO_156 hL) (fun _ h q => by cases h; cases q) (Or.inl rfl) rfl ?_
        have hcm : c ∈ opsJ 2 := by first | (rw [h13]; decide) | (rw [h19]; decide) | (rw [h25]; decide)
        have hpo := ops_pos hcm
        obtain ⟨l, q, hr1, q1, q2, q3, q4, q6⟩ := hgo hcm
        rw [hr1] at hR hW
        rw [q3]
        have m2 : mP V (wr W 156 5 (q + 1)) := b1.w (by omega) _
        have a2 : wr W 156 5 (q + 1) 156 5 = q + 1 := wr_self
        have f2 : wr W 156 5 (q + 1) 156 7 = -1 := by rw [wr_ne (by omega), q2]
        have o2 : wr W 156 5 (q + 1) 156 8 = 5 - k := by rw [wr_ne (by omega), q4, ho]
        have o3 : wr W 156 5 (q + 1) 156 8 = V 156 8 := by rw [wr_ne (by omega), q4]
        generalize wr W 156 5 (q + 1) = W2 at *
        refine ev_aload_n (X := M_X12_compared) (pc := 40) dX12_compared_40 rfl ?_
        refine ev_virtZ (X := M_X12_compared) (Y := M_X12_sum) (pc := 41) (ci := 12) dX12_compared_41 mk_X12_sum rfl kw_1118 kw_1120 kp_10 (lO_156 hL) (ih W2 (h.mP m2) (by rw [a2]; omega) f2 o2) rfl (by omega) rfl (Nat.le_of_ble_eq_true rfl) (Nat.zero_add _) (Nat.zero_add _) (fun w W3 hW3 => ?_)
        have hw := hW3.2.1
        rw [a2] at hW3
        have fin : PM V nm n (lvl (prS f n u k) f n 3 (V 156 5)) (jn c v w) W3 := by
          have hR2 : lvl (prS f n u k) f n 3 (V 156 5) = lp (lvl (prS f n u k) f n 2) f n 2 1 l q := hR
          rw [lp_s (by rw [← q1]; exact hcm), ← q1] at hR2
          rw [hR2]
          generalize lvl (prS f n u k) f n 2 (q + 1) = r2 at *
          obtain ⟨o2', q'⟩ := r2
          cases o2' with
          | none =>
            obtain ⟨a1, a2', a3, a4, a5, a6⟩ := hW3
            exact ⟨m2.tr a1, jn_r, a3, a4, a5, a6⟩
          | some m =>
            obtain ⟨a1, a2', a3, a4, a5, a6, a7⟩ := hW3
            refine ⟨m2.tr a1, jn_r, a3, a4, a5, by rw [a6, o3], ?_⟩
            exact hW.2.2.2.2.2.2.bin a7 hpo.1
        refine ev_istore_nL (X := M_X12_compared) (pc := 44) (ls' := [_, _, _, _]) dX12_compared_44 (by decide) rfl ?_
        refine ev_iload_n (X := M_X12_compared) (pc := 45) dX12_compared_45 rfl ?_
        refine ev_bipush (X := M_X12_compared) (pc := 46) dX12_compared_46 (by decide) ?_
        refine ev_icmp_ne (X := M_X12_compared) (pc := 48) (tgt := 59) dX12_compared_48 (by decide) (by omega) (by omega) (fun h48 => ?_) (fun h48 => ?_)
        · refine ev_iload_n (X := M_X12_compared) (pc := 59) dX12_compared_59 rfl ?_
          refine ev_bipush (X := M_X12_compared) (pc := 60) dX12_compared_60 (by decide) ?_
          refine ev_icmp_ne (X := M_X12_compared) (pc := 62) (tgt := 73) dX12_compared_62 (by decide) (by omega) (by omega) (fun h62 => ?_) (fun h62 => ?_)
          · refine ev_iload_n (X := M_X12_compared) (pc := 73) dX12_compared_73 rfl ?_
            refine ev_iload_n (X := M_X12_compared) (pc := 74) dX12_compared_74 rfl ?_
            refine ev_icmp_le (X := M_X12_compared) (pc := 75) (tgt := 82) dX12_compared_75 (by decide) (by omega) (by omega) (fun h75 => ?_) (fun h75 => ?_)
            · refine ev_iconst (X := M_X12_compared) (pc := 82) dX12_compared_82 ?_
              refine ev_iret (X := M_X12_compared) (pc := 83) dX12_compared_83 rfl ?_
              refine ⟨rfl, jn c v w, congrArg (fun z => some (vI z)) ?_, fin⟩
              unfold jn
              repeat' split
              all_goals first | rfl | omega
            · refine ev_iconst (X := M_X12_compared) (pc := 78) dX12_compared_78 ?_
              refine ev_goto (X := M_X12_compared) (pc := 79) (tgt := 83) dX12_compared_79 (by decide) ?_
              refine ev_iret (X := M_X12_compared) (pc := 83) dX12_compared_83 rfl ?_
              refine ⟨rfl, jn c v w, congrArg (fun z => some (vI z)) ?_, fin⟩
              unfold jn
              repeat' split
              all_goals first | rfl | omega
          · refine ev_iload_n (X := M_X12_compared) (pc := 65) dX12_compared_65 rfl ?_
            refine ev_iload_n (X := M_X12_compared) (pc := 66) dX12_compared_66 rfl ?_
            refine ev_icmp_ne (X := M_X12_compared) (pc := 67) (tgt := 82) dX12_compared_67 (by decide) (by omega) (by omega) (fun h67 => ?_) (fun h67 => ?_)
            · refine ev_iconst (X := M_X12_compared) (pc := 82) dX12_compared_82 ?_
              refine ev_iret (X := M_X12_compared) (pc := 83) dX12_compared_83 rfl ?_
              refine ⟨rfl, jn c v w, congrArg (fun z => some (vI z)) ?_, fin⟩
              unfold jn
              repeat' split
              all_goals first | rfl | omega
            · refine ev_goto (X := M_X12_compared) (pc := 70) (tgt := 78) dX12_compared_70 (by decide) ?_
              refine ev_iconst (X := M_X12_compared) (pc := 78) dX12_compared_78 ?_
              refine ev_goto (X := M_X12_compared) (pc := 79) (tgt := 83) dX12_compared_79 (by decide) ?_
              refine ev_iret (X := M_X12_compared) (pc := 83) dX12_compared_83 rfl ?_
              refine ⟨rfl, jn c v w, congrArg (fun z => some (vI z)) ?_, fin⟩
              unfold jn
              repeat' split
              all_goals first | rfl | omega
        · refine ev_iload_n (X := M_X12_compared) (pc := 51) dX12_compared_51 rfl ?_
          refine ev_iload_n (X := M_X12_compared) (pc := 52) dX12_compared_52 rfl ?_
          refine ev_icmp_ge (X := M_X12_compared) (pc := 53) (tgt := 82) dX12_compared_53 (by decide) (by omega) (by omega) (fun h53 => ?_) (fun h53 => ?_)
          · refine ev_iconst (X := M_X12_compared) (pc := 82) dX12_compared_82 ?_
            refine ev_iret (X := M_X12_compared) (pc := 83) dX12_compared_83 rfl ?_
            refine ⟨rfl, jn c v w, congrArg (fun z => some (vI z)) ?_, fin⟩
            unfold jn
            repeat' split
            all_goals first | rfl | omega
          · refine ev_goto (X := M_X12_compared) (pc := 56) (tgt := 78) dX12_compared_56 (by decide) ?_
            refine ev_iconst (X := M_X12_compared) (pc := 78) dX12_compared_78 ?_
            refine ev_goto (X := M_X12_compared) (pc := 79) (tgt := 83) dX12_compared_79 (by decide) ?_
            refine ev_iret (X := M_X12_compared) (pc := 83) dX12_compared_83 rfl ?_
            refine ⟨rfl, jn c v w, congrArg (fun z => some (vI z)) ?_, fin⟩
            unfold jn
            repeat' split
            all_goals first | rfl | omega
      · refine ev_iload_n (X := M_X12_compared) (pc := 28) dX12_compared_28 rfl ?_
        refine ev_iret (X := M_X12_compared) (pc := 29) dX12_compared_29 rfl ?_
        exact ⟨rfl, v, rfl, hex (by show ¬ c ∈ ([60, 61, 62] : List Int); simp only [List.mem_cons, List.not_mem_nil, or_false]; omega)⟩
theorem m_both {γ : Gh} {K : Sk} {V : Mm} {f nm : Int → Int} {n u : Int} {k : Nat} (ih : MLv M_X12_compared γ K f nm n u k 3) (h : MT K V f nm n u) (hq : 0 ≤ V 156 5 ∧ V 156 5 ≤ n) (ha : V 156 7 = -1) (ho : V 156 8 = 5 - k) : Call γ M_X12_both (2+6*k+4) 0 0 [vR 156] K V (Qz K (PM V nm n (lvl (prS f n u k) f n 4 (V 156 5)))) := by
  refine call_of (by decide +kernel) (by intro v hv; simp only [List.mem_cons, List.not_mem_nil, or_false] at hv; rcases hv with rfl <;> exact fun q => by cases q) (Nat.le_of_ble_eq_true rfl) ?_
  refine ev_lsE (ls' := [_, _, _]) rfl ?_
  have hL := h.1
  have hn5 := h.2.2.2.2.1
  have hBj := lvl_B (f := f) (prS_B (f := f) (n := n) (u := u) k) 3
  refine ev_aload_n (X := M_X12_both) (pc := 0) dX12_both_0 rfl ?_
  refine ev_virtZ (X := M_X12_both) (Y := M_X12_compared) (pc := 1) (ci := 12) dX12_both_1 mk_X12_compared rfl kw_1114 kw_1116 kp_9 (lO_156 hL) (ih V h hq ha ho) rfl (by omega) rfl (Nat.le_of_ble_eq_true rfl) (Nat.zero_add _) (Nat.zero_add _) (fun v0 W0 hW0 => ?_)
  refine ev_istore_nL (X := M_X12_both) (pc := 4) (ls' := [_, _, _]) dX12_both_4 (by decide) rfl ?_
  refine ev_weak (ev_while (σ := Nat × Int × Mm) (fun s => LI V nm n (lvl (prS f n u k) f n 3) f 3 (lvl (prS f n u k) f n 4 (V 156 5)) s.1 s.2.1 s.2.2) (fun s => s.1) (fun s => [vR 156, vI s.2.1, vU]) (fun _ => K) (fun s => s.2.2) ?_ (50, v0, W0) (LI.init (by decide) hn5.2 hW0)) ⟨rfl, rfl, trivial⟩
  clear hW0 v0 W0
  rintro ⟨fu, v, W⟩ hI ih2
  dsimp only at hI ih2 ⊢
  obtain ⟨b1, b2, b3, b4⟩ := hI.base
  have hH := h.hh (W := W) b2.1
  have htk := m_takes (γ := γ) (h.mP b1) b2 b3 (c := 38) (by decide)
  have hxx := hI.exit
  have hgo0 := hI.go hBj
  generalize hr f n W = c at *
  refine ev_aload_n (X := M_X12_both) (pc := 5) dX12_both_5 rfl ?_
  refine ev_bipush (X := M_X12_both) (pc := 6) dX12_both_6 (by decide) ?_
  refine ev_virtR (X := M_X12_both) (Y := M_X12_takes) (pc := 8) (ci := 12) dX12_both_8 mk_X12_takes rfl kw_1138 kw_1140 kp_15 (lO_156 hL) (htk) rfl (by omega) rfl (Nat.le_of_ble_eq_true rfl) (Nat.zero_add _) (Nat.zero_add _) ?_
  refine ev_if_eq (X := M_X12_both) (pc := 11) (tgt := 36) dX12_both_11 (by decide) (by split <;> decide) (fun h11 => ?_) (fun h11 => ?_)
  · have hne : c ≠ 38 := fun z => by rw [if_pos z] at h11; exact absurd h11 (by decide)
    rw [if_neg hne]
    refine ev_iload_n (X := M_X12_both) (pc := 36) dX12_both_36 rfl ?_
    refine ev_iret (X := M_X12_both) (pc := 37) dX12_both_37 rfl ?_
    exact ⟨rfl, v, rfl, hxx (by show ¬ c ∈ ([38] : List Int); rw [List.mem_singleton]; exact hne)⟩
  · have hye : c = 38 := Decidable.byContradiction fun z => h11 (by rw [if_neg z])
    rw [if_pos hye]
    obtain ⟨q, q1, q2, q3, q4, q5, q6, q7, hgo⟩ := hgo0 (by rw [hye]; decide)
    rw [q3]
    have m2 : mP V (wr W 156 5 (q + 1)) := b1.w (by omega) _
    have a2 : wr W 156 5 (q + 1) 156 5 = q + 1 := wr_self
    have f2 : wr W 156 5 (q + 1) 156 7 = -1 := by rw [wr_ne (by omega), q2]
    have o2 : wr W 156 5 (q + 1) 156 8 = 5 - k := by rw [wr_ne (by omega), q4, ho]
    generalize wr W 156 5 (q + 1) = W2 at *
    refine ev_aload_n (X := M_X12_both) (pc := 14) dX12_both_14 rfl ?_
    refine ev_virtZ (X := M_X12_both) (Y := M_X12_compared) (pc := 15) (ci := 12) dX12_both_15 mk_X12_compared rfl kw_1114 kw_1116 kp_9 (lO_156 hL) (ih W2 (h.mP m2) (by rw [a2]; omega) f2 o2) rfl (by omega) rfl (Nat.le_of_ble_eq_true rfl) (Nat.zero_add _) (Nat.zero_add _) (fun w W3 hW3 => ?_)
    have hw := hW3.2.1
    rw [a2] at hW3
    have hg2 := hgo w W3 hW3
    rw [← q1, hye] at hg2
    refine ev_istore_nL (X := M_X12_both) (pc := 18) (ls' := [_, _, _]) dX12_both_18 (by decide) rfl ?_
    refine ev_iload_n (X := M_X12_both) (pc := 19) dX12_both_19 rfl ?_
    refine ev_if_eq (X := M_X12_both) (pc := 20) (tgt := 31) dX12_both_20 (by decide) (by omega) (fun h20 => ?_) (fun h20 => ?_)
    · refine ev_iconst (X := M_X12_both) (pc := 31) dX12_both_31 ?_
      refine ev_istore_nL (X := M_X12_both) (pc := 32) (ls' := [_, _, _]) dX12_both_32 (by decide) rfl ?_
      refine ev_goto (X := M_X12_both) (pc := 33) (tgt := 5) dX12_both_33 (by decide) ?_
      refine ev_weak (ih2 (fu - 1, jn 38 v w, W3) hg2 (by show fu - 1 < fu; omega)) ⟨rfl, congrArg vI ?_, trivial⟩
      unfold jn
      repeat' split
      all_goals first | rfl | omega
    · refine ev_iload_n (X := M_X12_both) (pc := 23) dX12_both_23 rfl ?_
      refine ev_if_eq (X := M_X12_both) (pc := 24) (tgt := 31) dX12_both_24 (by decide) (by omega) (fun h24 => ?_) (fun h24 => ?_)
      · refine ev_iconst (X := M_X12_both) (pc := 31) dX12_both_31 ?_
        refine ev_istore_nL (X := M_X12_both) (pc := 32) (ls' := [_, _, _]) dX12_both_32 (by decide) rfl ?_
        refine ev_goto (X := M_X12_both) (pc := 33) (tgt := 5) dX12_both_33 (by decide) ?_
        refine ev_weak (ih2 (fu - 1, jn 38 v w, W3) hg2 (by show fu - 1 < fu; omega)) ⟨rfl, congrArg vI ?_, trivial⟩
        unfold jn
        repeat' split
        all_goals first | rfl | omega
      · refine ev_iconst (X := M_X12_both) (pc := 27) dX12_both_27 ?_
        refine ev_goto (X := M_X12_both) (pc := 28) (tgt := 32) dX12_both_28 (by decide) ?_
        refine ev_istore_nL (X := M_X12_both) (pc := 32) (ls' := [_, _, _]) dX12_both_32 (by decide) rfl ?_
        refine ev_goto (X := M_X12_both) (pc := 33) (tgt := 5) dX12_both_33 (by decide) ?_
        refine ev_weak (ih2 (fu - 1, jn 38 v w, W3) hg2 (by show fu - 1 < fu; omega)) ⟨rfl, congrArg vI ?_, trivial⟩
        unfold jn
        repeat' split
        all_goals first | rfl | omega
theorem m_either {γ : Gh} {K : Sk} {V : Mm} {f nm : Int → Int} {n u : Int} {k : Nat} (ih : MLv M_X12_both γ K f nm n u k 4) (h : MT K V f nm n u) (hq : 0 ≤ V 156 5 ∧ V 156 5 ≤ n) (ha : V 156 7 = -1) (ho : V 156 8 = 5 - k) : Call γ M_X12_either (2+6*k+5) 0 0 [vR 156] K V (Qz K (PM V nm n (lvl (prS f n u k) f n 5 (V 156 5)))) := by
  refine call_of (by decide +kernel) (by intro v hv; simp only [List.mem_cons, List.not_mem_nil, or_false] at hv; rcases hv with rfl <;> exact fun q => by cases q) (Nat.le_of_ble_eq_true rfl) ?_
  refine ev_lsE (ls' := [_, _, _]) rfl ?_
  have hL := h.1
  have hn5 := h.2.2.2.2.1
  have hBj := lvl_B (f := f) (prS_B (f := f) (n := n) (u := u) k) 4
  refine ev_aload_n (X := M_X12_either) (pc := 0) dX12_either_0 rfl ?_
  refine ev_virtZ (X := M_X12_either) (Y := M_X12_both) (pc := 1) (ci := 12) dX12_either_1 mk_X12_both rfl kw_1110 kw_1112 kp_8 (lO_156 hL) (ih V h hq ha ho) rfl (by omega) rfl (Nat.le_of_ble_eq_true rfl) (Nat.zero_add _) (Nat.zero_add _) (fun v0 W0 hW0 => ?_)
  refine ev_istore_nL (X := M_X12_either) (pc := 4) (ls' := [_, _, _]) dX12_either_4 (by decide) rfl ?_
  refine ev_weak (ev_while (σ := Nat × Int × Mm) (fun s => LI V nm n (lvl (prS f n u k) f n 4) f 4 (lvl (prS f n u k) f n 5 (V 156 5)) s.1 s.2.1 s.2.2) (fun s => s.1) (fun s => [vR 156, vI s.2.1, vU]) (fun _ => K) (fun s => s.2.2) ?_ (50, v0, W0) (LI.init (by decide) hn5.2 hW0)) ⟨rfl, rfl, trivial⟩
  clear hW0 v0 W0
  rintro ⟨fu, v, W⟩ hI ih2
  dsimp only at hI ih2 ⊢
  obtain ⟨b1, b2, b3, b4⟩ := hI.base
  have hH := h.hh (W := W) b2.1
  have htk := m_takes (γ := γ) (h.mP b1) b2 b3 (c := 124) (by decide)
  have hxx := hI.exit
  have hgo0 := hI.go hBj
  generalize hr f n W = c at *
  refine ev_aload_n (X := M_X12_either) (pc := 5) dX12_either_5 rfl ?_
  refine ev_bipush (X := M_X12_either) (pc := 6) dX12_either_6 (by decide) ?_
  refine ev_virtR (X := M_X12_either) (Y := M_X12_takes) (pc := 8) (ci := 12) dX12_either_8 mk_X12_takes rfl kw_1138 kw_1140 kp_15 (lO_156 hL) (htk) rfl (by omega) rfl (Nat.le_of_ble_eq_true rfl) (Nat.zero_add _) (Nat.zero_add _) ?_
  refine ev_if_eq (X := M_X12_either) (pc := 11) (tgt := 36) dX12_either_11 (by decide) (by split <;> decide) (fun h11 => ?_) (fun h11 => ?_)
  · have hne : c ≠ 124 := fun z => by rw [if_pos z] at h11; exact absurd h11 (by decide)
    rw [if_neg hne]
    refine ev_iload_n (X := M_X12_either) (pc := 36) dX12_either_36 rfl ?_
    refine ev_iret (X := M_X12_either) (pc := 37) dX12_either_37 rfl ?_
    exact ⟨rfl, v, rfl, hxx (by show ¬ c ∈ ([124] : List Int); rw [List.mem_singleton]; exact hne)⟩
  · have hye : c = 124 := Decidable.byContradiction fun z => h11 (by rw [if_neg z])
    rw [if_pos hye]
    obtain ⟨q, q1, q2, q3, q4, q5, q6, q7, hgo⟩ := hgo0 (by rw [hye]; decide)
    rw [q3]
    have m2 : mP V (wr W 156 5 (q + 1)) := b1.w (by omega) _
    have a2 : wr W 156 5 (q + 1) 156 5 = q + 1 := wr_self
    have f2 : wr W 156 5 (q + 1) 156 7 = -1 := by rw [wr_ne (by omega), q2]
    have o2 : wr W 156 5 (q + 1) 156 8 = 5 - k := by rw [wr_ne (by omega), q4, ho]
    generalize wr W 156 5 (q + 1) = W2 at *
    refine ev_aload_n (X := M_X12_either) (pc := 14) dX12_either_14 rfl ?_
    refine ev_virtZ (X := M_X12_either) (Y := M_X12_both) (pc := 15) (ci := 12) dX12_either_15 mk_X12_both rfl kw_1110 kw_1112 kp_8 (lO_156 hL) (ih W2 (h.mP m2) (by rw [a2]; omega) f2 o2) rfl (by omega) rfl (Nat.le_of_ble_eq_true rfl) (Nat.zero_add _) (Nat.zero_add _) (fun w W3 hW3 => ?_)
    have hw := hW3.2.1
    rw [a2] at hW3
    have hg2 := hgo w W3 hW3
    rw [← q1, hye] at hg2
    refine ev_istore_nL (X := M_X12_either) (pc := 18) (ls' := [_, _, _]) dX12_either_18 (by decide) rfl ?_
    refine ev_iload_n (X := M_X12_either) (pc := 19) dX12_either_19 rfl ?_
    refine ev_if_ne (X := M_X12_either) (pc := 20) (tgt := 27) dX12_either_20 (by decide) (by omega) (fun h20 => ?_) (fun h20 => ?_)
    · refine ev_iconst (X := M_X12_either) (pc := 27) dX12_either_27 ?_
      refine ev_goto (X := M_X12_either) (pc := 28) (tgt := 32) dX12_either_28 (by decide) ?_
      refine ev_istore_nL (X := M_X12_either) (pc := 32) (ls' := [_, _, _]) dX12_either_32 (by decide) rfl ?_
      refine ev_goto (X := M_X12_either) (pc := 33) (tgt := 5) dX12_either_33 (by decide) ?_
      refine ev_weak (ih2 (fu - 1, jn 124 v w, W3) hg2 (by show fu - 1 < fu; omega)) ⟨rfl, congrArg vI ?_, trivial⟩
      unfold jn
      repeat' split
      all_goals first | rfl | omega
    · refine ev_iload_n (X := M_X12_either) (pc := 23) dX12_either_23 rfl ?_
      refine ev_if_eq (X := M_X12_either) (pc := 24) (tgt := 31) dX12_either_24 (by decide) (by omega) (fun h24 => ?_) (fun h24 => ?_)
      · refine ev_iconst (X := M_X12_either) (pc := 31) dX12_either_31 ?_
        refine ev_istore_nL (X := M_X12_either) (pc := 32) (ls' := [_, _, _]) dX12_either_32 (by decide) rfl ?_
        refine ev_goto (X := M_X12_either) (pc := 33) (tgt := 5) dX12_either_33 (by decide) ?_
        refine ev_weak (ih2 (fu - 1, jn 124 v w, W3) hg2 (by show fu - 1 < fu; omega)) ⟨rfl, congrArg vI ?_, trivial⟩
        unfold jn
        repeat' split
        all_goals first | rfl | omega
      · refine ev_iconst (X := M_X12_either) (pc := 27) dX12_either_27 ?_
        refine ev_goto (X := M_X12_either) (pc := 28) (tgt := 32) dX12_either_28 (by decide) ?_
        refine ev_istore_nL (X := M_X12_either) (pc := 32) (ls' := [_, _, _]) dX12_either_32 (by decide) rfl ?_
        refine ev_goto (X := M_X12_either) (pc := 33) (tgt := 5) dX12_either_33 (by decide) ?_
        refine ev_weak (ih2 (fu - 1, jn 124 v w, W3) hg2 (by show fu - 1 < fu; omega)) ⟨rfl, congrArg vI ?_, trivial⟩
        unfold jn
        repeat' split
        all_goals first | rfl | omega
