set_option maxHeartbeats 4000000 in
set_option maxRecDepth 100000 in
theorem k_X12_isLaw (l : Launch) (D : va_G) (cy : Nat → ClassId) (sz : Nat) (h : Nat) (r : Nat → Nat) (v : Nat → Int32) (A : Nat → Nat → Int32) (f5 : Nat → Int32) (g13 : Nat → Int32) (L : Nat) (hL : L ≤ 60) : Met l yX12_isLaw wsX12_isLaw (rmD 3) (pPre D (TY cy) (mW cy h r (upd (upd v 4 (nI L)) 6 (nI 0)) (va_up (va_up A 5 f5) 13 g13)) sz [.ref h]) (pI D (TY cy) (mW cy h r (upd (upd v 4 (nI L)) 6 (nI 0)) (va_up (va_up A 5 f5) 13 g13)) sz (fun u : Int32 × Int32 × Int32 × Int32 × Int32 × (Nat → Int32) => mW cy h r (upd (upd (upd (upd (upd (upd v 4 (nI L)) 6 u.1) 7 u.2.1) 8 u.2.2.1) 9 u.2.2.2.1) 10 u.2.2.2.2.1) (va_up (va_up A 5 f5) 13 u.2.2.2.2.2)) (fun (r_ : Int32) (u : Int32 × Int32 × Int32 × Int32 × Int32 × (Nat → Int32)) => r_ = bI (lawX f5 L = 0) ∧ (lawX f5 L = 0 → u.1 = nI (lp f5 L 0 5) ∧ u.2.2.2.2.2 = lawA g13 f5 L) ∧ (¬ lawX f5 L = 0 → u.2.1 = nI (lp f5 L 0 (lawT f5 L)) ∧ u.2.2.2.2.1 = nI (lawX f5 L)))) 0 0 (va_A (mW cy h r (upd (upd v 4 (nI L)) 6 (nI 0)) (va_up (va_up A 5 f5) 13 g13)) sz) := by
  refine ent_z (cc := cX12_isLaw) (maxL := 1) (by decide +kernel) rfl (Nat.le_of_ble_eq_true rfl) ?_
  intro p_ e_ s_ m_ args_ below_ meth_ c_ A_ Q_ ls B0 ret
  obtain ⟨CF, hA, hKN, hP, hD, hl⟩ := B0
  have hK := hKN.1
  obtain ⟨hx, hb, hml, hown, hts⟩ := id CF
  have hS : va_S A_ s_.heap s_.heap [] := va_S.rf
  have hl : lv_has ls 1 [(0, .ref h)] := hl
  have hf25 := hts (.fieldLink RX12 25 "DrawerCardsModel" "read" "[I") (by decide +kernel)
  have hinX12 := show ∀ w ∈ u_ws RX12 TX12 24, w ∈ wsX12_isLaw from by decide +kernel
  have hf87 := hts (.fieldLink RX12 87 "DrawerCardsModel" "number" "I") (by decide +kernel)
  refine lv_aload_n hx hb dX12_isLaw_0 rfl (lv_at hl 0 rfl) ?_
  refine lv_bipush (v := nI 99) hx hb dX12_isLaw_1 (by decide) ?_
  refine call_i (wr := []) (ws' := (fun u1 : Nat × Int32 => mW cy h r (upd (upd (upd (upd (upd (upd v 4 (nI L)) 7 (nI 0)) 6 (nI u1.1)) 8 (tokK f5 L 0)) 9 (tokN f5 L 0)) 10 u1.2) (va_up (va_up A 13 g13) 5 f5))) (va_runV (As := [.int (nI 99)]) (rest := []) CF (k_X12_isSign l D cy _ h r v (va_up A 13 g13) f5 L 0 (nI 99) (by first | assumption | omega | decide) (by first | assumption | omega | decide)) (cwV 1 hts gX12_isLaw_X12_isSign rfl rfl rfl (by decide +kernel) ⟨Nat.le_of_ble_eq_true rfl, Nat.le_of_ble_eq_true rfl⟩) (pre_V hKN hP hD [0, 1, 2, 3, 4, 5, 6, 7, 8, 9, 10, 11, 12, 13, 14] rfl (by decide) 0 11 rfl rfl) rfl rfl hl.1 rfl (lv_room (Nat.le_of_ble_eq_true rfl)) dX12_isLaw_3 ⟨Nat.le_of_ble_eq_true rfl, Nat.le_of_ble_eq_true rfl⟩) hS hA hP hD [0, 1, 2, 3, 4, 5, 6, 7, 8, 9, 10, 11, 12, 13, 14] [] [0, 1, 2, 3, 4, 5, 6, 7, 8, 9, 10, 11, 12, 13, 14] rfl rfl (by decide) (by decide) (fun _ => rfl) (by decide) (fun r2 u1 H locs hw3 hP hD hS => ?_)
  obtain ⟨hw3a, hw3⟩ := hw3
  replace hw3a := hw3a.symm; subst hw3a
  obtain ⟨q_1, w10_1⟩ := u1
  try dsimp only at hw3
  have le_1 : q_1 ≤ L := (by rw [hw3.1]; exact tokP_le (by first | assumption | exact Nat.zero_le _))
  have hP : va_P D vwCl (mW cy h r (upd (upd (upd (upd (upd (upd v 4 (nI L)) 7 (nI 0)) 6 (nI q_1)) 8 (tokK f5 L 0)) 9 (tokN f5 L 0)) 10 w10_1) (va_up (va_up A 13 g13) 5 f5)) H := hP
  have hD : va_D A_ (mW cy h r (upd (upd (upd (upd (upd (upd v 4 (nI L)) 7 (nI 0)) 6 (nI q_1)) 8 (tokK f5 L 0)) 9 (tokN f5 L 0)) 10 w10_1) (va_up (va_up A 13 g13) 5 f5)) := hD
  refine ifeqB (tgt := 19) hx hb dX12_isLaw_6 (by decide) (fun c6 => ?_) (fun c6 => ?_)
  · replace c6 : ¬ (tokK f5 L 0 = (nI 99)) := c6
    refine lv_iconst (v := nI 0) hx hb dX12_isLaw_19 (by decide) ?_
    exact ret _ ((nI q_1), (nI 0), (tokK f5 L 0), (tokN f5 L 0), w10_1, g13) _ _ _ _ dX12_isLaw_20 rfl (lawR0 c6 (hw3.2.trans (if_neg c6))) hP hD hS
  · replace c6 : (tokK f5 L 0 = (nI 99)) := c6
    refine lv_aload_n hx hb dX12_isLaw_9 rfl (lv_at hl 0 rfl) ?_
    refine lv_iconst (v := nI 2) hx hb dX12_isLaw_10 (by decide) ?_
    refine lv_bipush (v := nI 6) hx hb dX12_isLaw_11 (by decide) ?_
    refine call_i (wr := []) (ws' := (fun u4 : Nat × Int32 => mW cy h r (upd (upd (upd (upd (upd (upd v 4 (nI L)) 7 (nI q_1)) 6 (nI u4.1)) 8 (tokK f5 L q_1)) 9 (tokN f5 L q_1)) 10 u4.2) (va_up (va_up A 13 g13) 5 f5))) (va_runV (As := [.int (nI 2), .int (nI 6)]) (rest := []) CF (k_X12_isNumber l D cy _ h r (upd (upd (upd (upd v 7 (nI 0)) 8 (tokK f5 L 0)) 9 (tokN f5 L 0)) 10 w10_1) (va_up A 13 g13) f5 L q_1 (nI 2) (nI 6) (by first | assumption | omega | decide) (by first | assumption | omega | decide)) (cwV 2 hts gX12_isLaw_X12_isNumber rfl rfl rfl (by decide +kernel) ⟨Nat.le_of_ble_eq_true rfl, Nat.le_of_ble_eq_true rfl⟩) (pre_V hKN hP hD [0, 1, 2, 3, 4, 5, 6, 7, 8, 9, 10, 11, 12, 13, 14] rfl (by decide) 0 11 rfl rfl) rfl rfl hl.1 rfl (lv_room (Nat.le_of_ble_eq_true rfl)) dX12_isLaw_13 ⟨Nat.le_of_ble_eq_true rfl, Nat.le_of_ble_eq_true rfl⟩) hS hA hP hD [0, 1, 2, 3, 4, 5, 6, 7, 8, 9, 10, 11, 12, 13, 14] [] [0, 1, 2, 3, 4, 5, 6, 7, 8, 9, 10, 11, 12, 13, 14] rfl rfl (by decide) (by decide) (fun _ => rfl) (by decide) (fun r5 u4 H locs hw6 hP hD hS => ?_)
    obtain ⟨hw6a, hw6⟩ := hw6
    replace hw6a := hw6a.symm; subst hw6a
    obtain ⟨q_4, w10_4⟩ := u4
    try dsimp only at hw6
    have le_4 : q_4 ≤ L := (by rw [hw6.1]; exact tokP_le (by first | assumption | exact Nat.zero_le _))
    have hP : va_P D vwCl (mW cy h r (upd (upd (upd (upd (upd (upd v 4 (nI L)) 7 (nI q_1)) 6 (nI q_4)) 8 (tokK f5 L q_1)) 9 (tokN f5 L q_1)) 10 w10_4) (va_up (va_up A 13 g13) 5 f5)) H := hP
    have hD : va_D A_ (mW cy h r (upd (upd (upd (upd (upd (upd v 4 (nI L)) 7 (nI q_1)) 6 (nI q_4)) 8 (tokK f5 L q_1)) 9 (tokN f5 L q_1)) 10 w10_4) (va_up (va_up A 13 g13) 5 f5)) := hD
    refine ifneB (tgt := 21) hx hb dX12_isLaw_16 (by decide) (fun c16 => ?_) (fun c16 => ?_)
    · replace c16 : (tokK f5 L q_1 = -1 ∧ (nI 2) ≤ tokN f5 L q_1 ∧ tokN f5 L q_1 ≤ (nI 6)) := c16
      refine lv_aload_n hx hb dX12_isLaw_21 rfl (lv_at hl 0 rfl) ?_
      refine va_get (ci := 11) (v := .ref (r 13)) (C := RX12) (T := TX12) (N := 24) hx hb hts hinX12 hown hK hP 0 rfl rfl 13 (by decide) hf25 (fun _ h9 => h9) rfl dX12_isLaw_22 ?_
      refine lv_iconst (v := nI 1) hx hb dX12_isLaw_25 (by decide) ?_
      refine lv_aload_n hx hb dX12_isLaw_26 rfl (lv_at hl 0 rfl) ?_
      refine va_get (ci := 11) (v := .int (tokN f5 L q_1)) (C := RX12) (T := TX12) (N := 24) hx hb hts hinX12 hown hK hP 0 rfl rfl 9 (by decide) hf87 (fun _ h9 => h9) rfl dX12_isLaw_27 ?_
      refine stN (f := g13) (ws' := mW cy h r (upd (upd (upd (upd (upd (upd v 4 (nI L)) 7 (nI q_1)) 6 (nI q_4)) 8 (tokK f5 L q_1)) 9 (tokN f5 L q_1)) 10 w10_4) (va_up (va_up A 5 f5) 13 (upd g13 1 (tokN f5 L q_1)))) hx hb hK hP hD hS 6 rfl (j := 1) (by omega) (by decide) dX12_isLaw_30 rfl (fun H locs hP hD hS => ?_)
      refine lv_aload_n hx hb dX12_isLaw_31 rfl (lv_at hl 0 rfl) ?_
      refine lv_bipush (v := nI 44) hx hb dX12_isLaw_32 (by decide) ?_
      refine call_i (wr := []) (ws' := (fun u7 : Nat × Int32 => mW cy h r (upd (upd (upd (upd (upd (upd v 4 (nI L)) 7 (nI q_4)) 6 (nI u7.1)) 8 (tokK f5 L q_4)) 9 (tokN f5 L q_4)) 10 u7.2) (va_up (va_up A 13 (upd g13 1 (tokN f5 L q_1))) 5 f5))) (va_runV (As := [.int (nI 44)]) (rest := []) CF (k_X12_isSign l D cy _ h r (upd (upd (upd (upd v 7 (nI q_1)) 8 (tokK f5 L q_1)) 9 (tokN f5 L q_1)) 10 w10_4) (va_up A 13 (upd g13 1 (tokN f5 L q_1))) f5 L q_4 (nI 44) (by first | assumption | omega | decide) (by first | assumption | omega | decide)) (cwV 1 hts gX12_isLaw_X12_isSign rfl rfl rfl (by decide +kernel) ⟨Nat.le_of_ble_eq_true rfl, Nat.le_of_ble_eq_true rfl⟩) (pre_V hKN hP hD [0, 1, 2, 3, 4, 5, 6, 7, 8, 9, 10, 11, 12, 13, 14] rfl (by decide) 0 11 rfl rfl) rfl rfl hl.1 rfl (lv_room (Nat.le_of_ble_eq_true rfl)) dX12_isLaw_34 ⟨Nat.le_of_ble_eq_true rfl, Nat.le_of_ble_eq_true rfl⟩) hS hA hP hD [0, 1, 2, 3, 4, 5, 6, 7, 8, 9, 10, 11, 12, 13, 14] [] [0, 1, 2, 3, 4, 5, 6, 7, 8, 9, 10, 11, 12, 13, 14] rfl rfl (by decide) (by decide) (fun _ => rfl) (by decide) (fun r8 u7 H locs hw9 hP hD hS => ?_)
      obtain ⟨hw9a, hw9⟩ := hw9
      replace hw9a := hw9a.symm; subst hw9a
      obtain ⟨q_7, w10_7⟩ := u7
      try dsimp only at hw9
      have le_7 : q_7 ≤ L := (by rw [hw9.1]; exact tokP_le (by first | assumption | exact Nat.zero_le _))
      have hP : va_P D vwCl (mW cy h r (upd (upd (upd (upd (upd (upd v 4 (nI L)) 7 (nI q_4)) 6 (nI q_7)) 8 (tokK f5 L q_4)) 9 (tokN f5 L q_4)) 10 w10_7) (va_up (va_up A 13 (upd g13 1 (tokN f5 L q_1))) 5 f5)) H := hP
      have hD : va_D A_ (mW cy h r (upd (upd (upd (upd (upd (upd v 4 (nI L)) 7 (nI q_4)) 6 (nI q_7)) 8 (tokK f5 L q_4)) 9 (tokN f5 L q_4)) 10 w10_7) (va_up (va_up A 13 (upd g13 1 (tokN f5 L q_1))) 5 f5)) := hD
      refine ifeqB (tgt := 50) hx hb dX12_isLaw_37 (by decide) (fun c37 => ?_) (fun c37 => ?_)
      · replace c37 : ¬ (tokK f5 L q_4 = (nI 44)) := c37
        refine lv_iconst (v := nI 0) hx hb dX12_isLaw_50 (by decide) ?_
        exact ret _ ((nI q_7), (nI q_4), (tokK f5 L q_4), (tokN f5 L q_4), w10_7, (upd g13 1 (tokN f5 L q_1))) _ _ _ _ dX12_isLaw_51 rfl (by have l1 : q_1 = lp f5 L 0 1 := hw3.1; have l2 : q_4 = lp f5 L 0 2 := (by rw [hw6.1, l1]; rfl); have l3 : q_7 = lp f5 L 0 3 := (by rw [hw9.1, l2]; rfl); subst l1; subst l2; subst l3; exact lawR2 c6 c16 c37 (hw9.2.trans (if_neg c37))) hP hD hS
      · replace c37 : (tokK f5 L q_4 = (nI 44)) := c37
        refine lv_aload_n hx hb dX12_isLaw_40 rfl (lv_at hl 0 rfl) ?_
        refine lv_iconst (v := nI 1) hx hb dX12_isLaw_41 (by decide) ?_
        refine lv_bipush (v := nI 8) hx hb dX12_isLaw_42 (by decide) ?_
        refine call_i (wr := []) (ws' := (fun u10 : Nat × Int32 => mW cy h r (upd (upd (upd (upd (upd (upd v 4 (nI L)) 7 (nI q_7)) 6 (nI u10.1)) 8 (tokK f5 L q_7)) 9 (tokN f5 L q_7)) 10 u10.2) (va_up (va_up A 13 (upd g13 1 (tokN f5 L q_1))) 5 f5))) (va_runV (As := [.int (nI 1), .int (nI 8)]) (rest := []) CF (k_X12_isNumber l D cy _ h r (upd (upd (upd (upd v 7 (nI q_4)) 8 (tokK f5 L q_4)) 9 (tokN f5 L q_4)) 10 w10_7) (va_up A 13 (upd g13 1 (tokN f5 L q_1))) f5 L q_7 (nI 1) (nI 8) (by first | assumption | omega | decide) (by first | assumption | omega | decide)) (cwV 2 hts gX12_isLaw_X12_isNumber rfl rfl rfl (by decide +kernel) ⟨Nat.le_of_ble_eq_true rfl, Nat.le_of_ble_eq_true rfl⟩) (pre_V hKN hP hD [0, 1, 2, 3, 4, 5, 6, 7, 8, 9, 10, 11, 12, 13, 14] rfl (by decide) 0 11 rfl rfl) rfl rfl hl.1 rfl (lv_room (Nat.le_of_ble_eq_true rfl)) dX12_isLaw_44 ⟨Nat.le_of_ble_eq_true rfl, Nat.le_of_ble_eq_true rfl⟩) hS hA hP hD [0, 1, 2, 3, 4, 5, 6, 7, 8, 9, 10, 11, 12, 13, 14] [] [0, 1, 2, 3, 4, 5, 6, 7, 8, 9, 10, 11, 12, 13, 14] rfl rfl (by decide) (by decide) (fun _ => rfl) (by decide) (fun r11 u10 H locs hw12 hP hD hS => ?_)
        obtain ⟨hw12a, hw12⟩ := hw12
        replace hw12a := hw12a.symm; subst hw12a
        obtain ⟨q_10, w10_10⟩ := u10
        try dsimp only at hw12
        have le_10 : q_10 ≤ L := (by rw [hw12.1]; exact tokP_le (by first | assumption | exact Nat.zero_le _))
        have hP : va_P D vwCl (mW cy h r (upd (upd (upd (upd (upd (upd v 4 (nI L)) 7 (nI q_7)) 6 (nI q_10)) 8 (tokK f5 L q_7)) 9 (tokN f5 L q_7)) 10 w10_10) (va_up (va_up A 13 (upd g13 1 (tokN f5 L q_1))) 5 f5)) H := hP
        have hD : va_D A_ (mW cy h r (upd (upd (upd (upd (upd (upd v 4 (nI L)) 7 (nI q_7)) 6 (nI q_10)) 8 (tokK f5 L q_7)) 9 (tokN f5 L q_7)) 10 w10_10) (va_up (va_up A 13 (upd g13 1 (tokN f5 L q_1))) 5 f5)) := hD
        refine ifneB (tgt := 52) hx hb dX12_isLaw_47 (by decide) (fun c47 => ?_) (fun c47 => ?_)
        · replace c47 : (tokK f5 L q_7 = -1 ∧ (nI 1) ≤ tokN f5 L q_7 ∧ tokN f5 L q_7 ≤ (nI 8)) := c47
          refine lv_aload_n hx hb dX12_isLaw_52 rfl (lv_at hl 0 rfl) ?_
          refine va_get (ci := 11) (v := .ref (r 13)) (C := RX12) (T := TX12) (N := 24) hx hb hts hinX12 hown hK hP 0 rfl rfl 13 (by decide) hf25 (fun _ h9 => h9) rfl dX12_isLaw_53 ?_
          refine lv_iconst (v := nI 2) hx hb dX12_isLaw_56 (by decide) ?_
          refine lv_aload_n hx hb dX12_isLaw_57 rfl (lv_at hl 0 rfl) ?_
          refine va_get (ci := 11) (v := .int (tokN f5 L q_7)) (C := RX12) (T := TX12) (N := 24) hx hb hts hinX12 hown hK hP 0 rfl rfl 9 (by decide) hf87 (fun _ h9 => h9) rfl dX12_isLaw_58 ?_
          refine stN (f := upd g13 1 (tokN f5 L q_1)) (ws' := mW cy h r (upd (upd (upd (upd (upd (upd v 4 (nI L)) 7 (nI q_7)) 6 (nI q_10)) 8 (tokK f5 L q_7)) 9 (tokN f5 L q_7)) 10 w10_10) (va_up (va_up A 5 f5) 13 (upd (upd g13 1 (tokN f5 L q_1)) 2 (tokN f5 L q_7)))) hx hb hK hP hD hS 6 rfl (j := 2) (by omega) (by decide) dX12_isLaw_61 rfl (fun H locs hP hD hS => ?_)
          refine lv_aload_n hx hb dX12_isLaw_62 rfl (lv_at hl 0 rfl) ?_
          refine lv_bipush (v := nI 59) hx hb dX12_isLaw_63 (by decide) ?_
          refine call_i (wr := []) (ws' := (fun u13 : Nat × Int32 => mW cy h r (upd (upd (upd (upd (upd (upd v 4 (nI L)) 7 (nI q_10)) 6 (nI u13.1)) 8 (tokK f5 L q_10)) 9 (tokN f5 L q_10)) 10 u13.2) (va_up (va_up A 13 (upd (upd g13 1 (tokN f5 L q_1)) 2 (tokN f5 L q_7))) 5 f5))) (va_runV (As := [.int (nI 59)]) (rest := []) CF (k_X12_isSign l D cy _ h r (upd (upd (upd (upd v 7 (nI q_7)) 8 (tokK f5 L q_7)) 9 (tokN f5 L q_7)) 10 w10_10) (va_up A 13 (upd (upd g13 1 (tokN f5 L q_1)) 2 (tokN f5 L q_7))) f5 L q_10 (nI 59) (by first | assumption | omega | decide) (by first | assumption | omega | decide)) (cwV 1 hts gX12_isLaw_X12_isSign rfl rfl rfl (by decide +kernel) ⟨Nat.le_of_ble_eq_true rfl, Nat.le_of_ble_eq_true rfl⟩) (pre_V hKN hP hD [0, 1, 2, 3, 4, 5, 6, 7, 8, 9, 10, 11, 12, 13, 14] rfl (by decide) 0 11 rfl rfl) rfl rfl hl.1 rfl (lv_room (Nat.le_of_ble_eq_true rfl)) dX12_isLaw_65 ⟨Nat.le_of_ble_eq_true rfl, Nat.le_of_ble_eq_true rfl⟩) hS hA hP hD [0, 1, 2, 3, 4, 5, 6, 7, 8, 9, 10, 11, 12, 13, 14] [] [0, 1, 2, 3, 4, 5, 6, 7, 8, 9, 10, 11, 12, 13, 14] rfl rfl (by decide) (by decide) (fun _ => rfl) (by decide) (fun r14 u13 H locs hw15 hP hD hS => ?_)
          obtain ⟨hw15a, hw15⟩ := hw15
          replace hw15a := hw15a.symm; subst hw15a
          obtain ⟨q_13, w10_13⟩ := u13
          try dsimp only at hw15
          have le_13 : q_13 ≤ L := (by rw [hw15.1]; exact tokP_le (by first | assumption | exact Nat.zero_le _))
          have hP : va_P D vwCl (mW cy h r (upd (upd (upd (upd (upd (upd v 4 (nI L)) 7 (nI q_10)) 6 (nI q_13)) 8 (tokK f5 L q_10)) 9 (tokN f5 L q_10)) 10 w10_13) (va_up (va_up A 13 (upd (upd g13 1 (tokN f5 L q_1)) 2 (tokN f5 L q_7))) 5 f5)) H := hP
          have hD : va_D A_ (mW cy h r (upd (upd (upd (upd (upd (upd v 4 (nI L)) 7 (nI q_10)) 6 (nI q_13)) 8 (tokK f5 L q_10)) 9 (tokN f5 L q_10)) 10 w10_13) (va_up (va_up A 13 (upd (upd g13 1 (tokN f5 L q_1)) 2 (tokN f5 L q_7))) 5 f5)) := hD
          exact ret _ ((nI q_13), (nI q_10), (tokK f5 L q_10), (tokN f5 L q_10), w10_13, (upd (upd g13 1 (tokN f5 L q_1)) 2 (tokN f5 L q_7))) _ _ _ _ dX12_isLaw_68 bI_nar (by have l1 : q_1 = lp f5 L 0 1 := hw3.1; have l2 : q_4 = lp f5 L 0 2 := (by rw [hw6.1, l1]; rfl); have l3 : q_7 = lp f5 L 0 3 := (by rw [hw9.1, l2]; rfl); have l4 : q_10 = lp f5 L 0 4 := (by rw [hw12.1, l3]; rfl); have l5 : q_13 = lp f5 L 0 5 := (by rw [hw15.1, l4]; rfl); subst l1; subst l2; subst l3; subst l4; subst l5; exact lawR4 c6 c16 c37 c47 (fun z => hw15.2.trans (if_neg z))) hP hD hS
        · replace c47 : ¬ (tokK f5 L q_7 = -1 ∧ (nI 1) ≤ tokN f5 L q_7 ∧ tokN f5 L q_7 ≤ (nI 8)) := c47
          refine lv_iconst (v := nI 0) hx hb dX12_isLaw_50 (by decide) ?_
          exact ret _ ((nI q_10), (nI q_7), (tokK f5 L q_7), (tokN f5 L q_7), w10_10, (upd g13 1 (tokN f5 L q_1))) _ _ _ _ dX12_isLaw_51 rfl (by have l1 : q_1 = lp f5 L 0 1 := hw3.1; have l2 : q_4 = lp f5 L 0 2 := (by rw [hw6.1, l1]; rfl); have l3 : q_7 = lp f5 L 0 3 := (by rw [hw9.1, l2]; rfl); have l4 : q_10 = lp f5 L 0 4 := (by rw [hw12.1, l3]; rfl); subst l1; subst l2; subst l3; subst l4; exact lawR3 c6 c16 c37 c47 (hw12.2.trans (numX_e c47))) hP hD hS
    · replace c16 : ¬ (tokK f5 L q_1 = -1 ∧ (nI 2) ≤ tokN f5 L q_1 ∧ tokN f5 L q_1 ≤ (nI 6)) := c16
      refine lv_iconst (v := nI 0) hx hb dX12_isLaw_19 (by decide) ?_
      exact ret _ ((nI q_4), (nI q_1), (tokK f5 L q_1), (tokN f5 L q_1), w10_4, g13) _ _ _ _ dX12_isLaw_20 rfl (by have l1 : q_1 = lp f5 L 0 1 := hw3.1; have l2 : q_4 = lp f5 L 0 2 := (by rw [hw6.1, l1]; rfl); subst l1; subst l2; exact lawR1 c6 c16 (hw6.2.trans (numX_e c16))) hP hD hS
