set_option maxHeartbeats 4000000 in
set_option maxRecDepth 100000 in
theorem k_X12_isCard (l : Launch) (D : va_G) (cy : Nat → ClassId) (sz : Nat) (h : Nat) (r : Nat → Nat) (v : Nat → Int32) (A : Nat → Nat → Int32) (f5 : Nat → Int32) (L : Nat) (p : Nat) (g13 : Nat → Int32) (n : Nat) (hL : L ≤ 60) (hp : p ≤ L) (h3 : g13 3 = nI n) (hn : n ≤ 8) : Met l yX12_isCard wsX12_isCard (rmD 3) (pPre D (TY cy) (mW cy h r (upd (upd (upd (upd v 4 (nI L)) 7 (nI p)) 6 (nI (tokP f5 L p))) 8 (tokK f5 L p)) (va_up (va_up A 5 f5) 13 g13)) sz [.ref h]) (pI D (TY cy) (mW cy h r (upd (upd (upd (upd v 4 (nI L)) 7 (nI p)) 6 (nI (tokP f5 L p))) 8 (tokK f5 L p)) (va_up (va_up A 5 f5) 13 g13)) sz (fun u : Int32 × Int32 × Int32 × Int32 × Int32 × (Nat → Int32) => mW cy h r (upd (upd (upd (upd (upd (upd v 4 (nI L)) 6 u.1) 7 u.2.1) 8 u.2.2.1) 9 u.2.2.2.1) 10 u.2.2.2.2.1) (va_up (va_up A 5 f5) 13 u.2.2.2.2.2)) (fun (r_ : Int32) (u : Int32 × Int32 × Int32 × Int32 × Int32 × (Nat → Int32)) => r_ = bI (crdX f5 L p g13 n = 0) ∧ (crdX f5 L p g13 n = 0 → u.1 = nI (lp f5 L p 5) ∧ u.2.2.2.2.2 = crdA f5 L p g13 n) ∧ (¬ crdX f5 L p g13 n = 0 → u.2.1 = nI (lp f5 L p (crdT f5 L p g13 n)) ∧ u.2.2.2.2.1 = nI (crdX f5 L p g13 n)))) 0 0 (va_A (mW cy h r (upd (upd (upd (upd v 4 (nI L)) 7 (nI p)) 6 (nI (tokP f5 L p))) 8 (tokK f5 L p)) (va_up (va_up A 5 f5) 13 g13)) sz) := by
  refine ent_z (cc := cX12_isCard) (maxL := 4) (by decide +kernel) rfl (Nat.le_of_ble_eq_true rfl) ?_
  intro p_ e_ s_ m_ args_ below_ meth_ c_ A_ Q_ ls B0 ret
  obtain ⟨CF, hA, hKN, hP, hD, hl⟩ := B0
  have hK := hKN.1
  obtain ⟨hx, hb, hml, hown, hts⟩ := id CF
  have hS : va_S A_ s_.heap s_.heap [] := va_S.rf
  have hl : lv_has ls 4 [(0, .ref h)] := hl
  have hf90 := hts (.fieldLink RX12 90 "DrawerCardsModel" "token" "I") (by decide +kernel)
  have hinX12 := show ∀ w ∈ u_ws RX12 TX12 24, w ∈ wsX12_isCard from by decide +kernel
  have hf25 := hts (.fieldLink RX12 25 "DrawerCardsModel" "read" "[I") (by decide +kernel)
  have hf87 := hts (.fieldLink RX12 87 "DrawerCardsModel" "number" "I") (by decide +kernel)
  have le_1 : tokP f5 L p ≤ L := tokP_le hp
  refine lv_aload_n hx hb dX12_isCard_0 rfl (lv_at hl 0 rfl) ?_
  refine va_get (ci := 11) (v := .int (tokK f5 L p)) (C := RX12) (T := TX12) (N := 24) hx hb hts hinX12 hown hK hP 0 rfl rfl 8 (by decide) hf90 (fun _ h9 => h9) rfl dX12_isCard_1 ?_
  refine lv_if_le (tgt := 17) hx hb dX12_isCard_4 (by decide) (fun c4 => ?_) (fun c4 => ?_)
  · refine lv_iconst (v := nI 0) hx hb dX12_isCard_17 (by decide) ?_
    refine lv_istore_n (lv' := [(1, .int (nI 0)), (0, .ref h)]) hx hb dX12_isCard_18 rfl hl (by decide) rfl (fun ls hl => ?_)
    refine lv_iload_n hx hb dX12_isCard_19 rfl (lv_at hl 0 rfl) ?_
    refine lv_if_ne (tgt := 29) hx hb dX12_isCard_20 (by decide) (fun c20 => absurd c20 (by decide)) (fun c20 => ?_)
    refine lv_aload_n hx hb dX12_isCard_23 rfl (lv_at hl 1 rfl) ?_
    refine lv_iconst (v := nI 1) hx hb dX12_isCard_24 (by decide) ?_
    refine call_i (wr := []) (ws' := (fun _ : Unit => mW cy h r (upd (upd (upd (upd (upd v 4 (nI L)) 7 (nI p)) 6 (nI (tokP f5 L p))) 8 (tokK f5 L p)) 10 (nI 1)) (va_up (va_up A 5 f5) 13 g13))) (va_runV (As := [.int (nI 1)]) (rest := []) CF (k_X12_fails l D cy _ h r (upd (upd (upd (upd v 4 (nI L)) 7 (nI p)) 6 (nI (tokP f5 L p))) 8 (tokK f5 L p)) (va_up (va_up A 5 f5) 13 g13) 1 ) (cwV 1 hts gX12_isCard_X12_fails rfl rfl rfl (by decide +kernel) ⟨Nat.le_of_ble_eq_true rfl, Nat.le_of_ble_eq_true rfl⟩) (pre_V hKN hP hD [0, 1, 2, 3, 4, 5, 6, 7, 8, 9, 10, 11, 12, 13, 14] rfl (by decide) 0 11 rfl rfl) rfl rfl hl.1 rfl (lv_room (Nat.le_of_ble_eq_true rfl)) dX12_isCard_25 ⟨Nat.le_of_ble_eq_true rfl, Nat.le_of_ble_eq_true rfl⟩) hS hA hP hD [0, 1, 2, 3, 4, 5, 6, 7, 8, 9, 10, 11, 12, 13, 14] [] [0, 1, 2, 3, 4, 5, 6, 7, 8, 9, 10, 11, 12, 13, 14] rfl rfl (by decide) (by decide) (fun _ => rfl) (by decide) (fun r2 u1 H locs hw3 hP hD hS => ?_)
    replace hw3 := hw3.symm; subst hw3
    exact ret _ ((nI (tokP f5 L p)), (nI p), (tokK f5 L p), (v 9), (nI 1), g13) _ _ _ _ dX12_isCard_28 rfl (crdR0 (crdS_1 c4)) hP hD hS
  · refine lv_aload_n hx hb dX12_isCard_7 rfl (lv_at hl 0 rfl) ?_
    refine va_get (ci := 11) (v := .int (tokK f5 L p)) (C := RX12) (T := TX12) (N := 24) hx hb hts hinX12 hown hK hP 0 rfl rfl 8 (by decide) hf90 (fun _ h9 => h9) rfl dX12_isCard_8 ?_
    refine call_i (wr := [(h, .inr (11, mO r (upd (upd (upd (upd v 4 (nI L)) 7 (nI p)) 6 (nI (tokP f5 L p))) 8 (tokK f5 L p)))), ((r 0), wInt (cy 0) 8 (A 0)), ((r 1), wInt (cy 0) 8 (A 1)), ((r 2), wInt (cy 0) 320 (A 2)), ((r 5), wInt (cy 0) 60 f5), ((r 12), wInt (cy 0) 37 (A 12)), ((r 13), wInt (cy 0) 37 g13), ((r 14), wInt (cy 0) 37 (A 14)), ((r 15), wInt (cy 0) 37 (A 15)), ((r 16), wInt (cy 0) 74 (A 16)), ((r 17), wInt (cy 1) 2 (A 17)), ((r 18), wInt (cy 0) 888 (A 18)), ((r 20), wInt (cy 0) 16 (A 20)), ((r 22), wInt (cy 0) 16 (A 22)), ((r 23), wInt (cy 0) 24 (A 23))]) (ws' := (fun _ : Unit => mW cy h r (upd (upd (upd (upd v 4 (nI L)) 7 (nI p)) 6 (nI (tokP f5 L p))) 8 (tokK f5 L p)) (va_up (va_up A 5 f5) 13 g13))) (va_runS (As := [.int (tokK f5 L p)]) (rest := []) CF (k_X12_sortBy l D cy _ (tokK f5 L p) ) (va_cwS 1 hts gX12_isCard_X12_sortBy rfl rfl rfl (by decide +kernel) ⟨Nat.le_of_ble_eq_true rfl, Nat.le_of_ble_eq_true rfl⟩) (pre_S hKN hP hD [] rfl (by decide)) rfl rfl hl.1 rfl (lv_room (Nat.le_of_ble_eq_true rfl)) dX12_isCard_11 ⟨Nat.le_of_ble_eq_true rfl, Nat.le_of_ble_eq_true rfl⟩) hS hA hP hD [] [0, 1, 2, 3, 4, 5, 6, 7, 8, 9, 10, 11, 12, 13, 14] [0, 1, 2, 3, 4, 5, 6, 7, 8, 9, 10, 11, 12, 13, 14] rfl rfl (by decide) (by decide) (fun _ => rfl) (by decide) (fun r5 u4 H locs hw6 hP hD hS => ?_)
    replace hw6 := hw6.symm; subst hw6
    refine lv_goto (tgt := 18) hx hb dX12_isCard_14 (by decide) ?_
    refine lv_istore_n (lv' := [(1, .int (srtF (tokK f5 L p))), (0, .ref h)]) hx hb dX12_isCard_18 rfl hl (by decide) rfl (fun ls hl => ?_)
    refine lv_iload_n hx hb dX12_isCard_19 rfl (lv_at hl 0 rfl) ?_
    refine lv_if_ne (tgt := 29) hx hb dX12_isCard_20 (by decide) (fun c20 => ?_) (fun c20 => ?_)
    · refine lv_aload_n hx hb dX12_isCard_29 rfl (lv_at hl 1 rfl) ?_
      refine va_get (ci := 11) (v := .ref (r 13)) (C := RX12) (T := TX12) (N := 24) hx hb hts hinX12 hown hK hP 0 rfl rfl 13 (by decide) hf25 (fun _ h9 => h9) rfl dX12_isCard_30 ?_
      refine lv_iconst (v := nI 3) hx hb dX12_isCard_33 (by decide) ?_
      refine ldN (f := g13) hx hb hK hP 6 rfl (j := 3) (by omega) (by decide) dX12_isCard_34 ?_
      refine top_i h3 ?_
      refine lv_istore_n (lv' := [(2, .int (nI n)), (1, .int (srtF (tokK f5 L p))), (0, .ref h)]) hx hb dX12_isCard_35 rfl hl (by decide) rfl (fun ls hl => ?_)
      refine lv_iload_n hx hb dX12_isCard_36 rfl (lv_at hl 0 rfl) ?_
      refine lv_bipush (v := nI 8) hx hb dX12_isCard_37 (by decide) ?_
      refine neN (tgt := 48) hx hb (by omega) (by decide) dX12_isCard_39 (by decide) (fun c39 => ?_) (fun c39 => ?_)
      · refine lv_aload_n hx hb dX12_isCard_48 rfl (lv_at hl 2 rfl) ?_
        refine lv_iconst (v := nI 0) hx hb dX12_isCard_49 (by decide) ?_
        refine lv_aload_n hx hb dX12_isCard_50 rfl (lv_at hl 2 rfl) ?_
        refine va_get (ci := 11) (v := .ref (r 13)) (C := RX12) (T := TX12) (N := 24) hx hb hts hinX12 hown hK hP 0 rfl rfl 13 (by decide) hf25 (fun _ h9 => h9) rfl dX12_isCard_51 ?_
        refine lv_iconst (v := nI 1) hx hb dX12_isCard_54 (by decide) ?_
        refine ldN (f := g13) hx hb hK hP 6 rfl (j := 1) (by omega) (by decide) dX12_isCard_55 ?_
        refine lv_iconst (v := nI 1) hx hb dX12_isCard_56 (by decide) ?_
        refine lv_isub hx hb dX12_isCard_57 ?_
        refine call_i (wr := []) (ws' := (fun u7 : Nat × Int32 => mW cy h r (upd (upd (upd (upd (upd (upd v 4 (nI L)) 7 (nI (tokP f5 L p))) 6 (nI u7.1)) 8 (tokK f5 L (tokP f5 L p))) 9 (tokN f5 L (tokP f5 L p))) 10 u7.2) (va_up (va_up A 13 g13) 5 f5))) (va_runV (As := [.int (nI 0), .int (g13 1 - nI 1)]) (rest := []) CF (k_X12_isNumber l D cy _ h r (upd (upd v 7 (nI p)) 8 (tokK f5 L p)) (va_up A 13 g13) f5 L (tokP f5 L p) (nI 0) (g13 1 - nI 1) (by first | assumption | omega | decide) (by first | assumption | omega | decide)) (cwV 2 hts gX12_isCard_X12_isNumber rfl rfl rfl (by decide +kernel) ⟨Nat.le_of_ble_eq_true rfl, Nat.le_of_ble_eq_true rfl⟩) (pre_V hKN hP hD [0, 1, 2, 3, 4, 5, 6, 7, 8, 9, 10, 11, 12, 13, 14] rfl (by decide) 0 11 rfl rfl) rfl rfl hl.1 rfl (lv_room (Nat.le_of_ble_eq_true rfl)) dX12_isCard_58 ⟨Nat.le_of_ble_eq_true rfl, Nat.le_of_ble_eq_true rfl⟩) hS hA hP hD [0, 1, 2, 3, 4, 5, 6, 7, 8, 9, 10, 11, 12, 13, 14] [] [0, 1, 2, 3, 4, 5, 6, 7, 8, 9, 10, 11, 12, 13, 14] rfl rfl (by decide) (by decide) (fun _ => rfl) (by decide) (fun r8 u7 H locs hw9 hP hD hS => ?_)
        obtain ⟨hw9a, hw9⟩ := hw9
        replace hw9a := hw9a.symm; subst hw9a
        obtain ⟨q_7, w10_7⟩ := u7
        try dsimp only at hw9
        have le_7 : q_7 ≤ L := (by rw [hw9.1]; exact tokP_le (by first | assumption | exact Nat.zero_le _))
        have hP : va_P D vwCl (mW cy h r (upd (upd (upd (upd (upd (upd v 4 (nI L)) 7 (nI (tokP f5 L p))) 6 (nI q_7)) 8 (tokK f5 L (tokP f5 L p))) 9 (tokN f5 L (tokP f5 L p))) 10 w10_7) (va_up (va_up A 13 g13) 5 f5)) H := hP
        have hD : va_D A_ (mW cy h r (upd (upd (upd (upd (upd (upd v 4 (nI L)) 7 (nI (tokP f5 L p))) 6 (nI q_7)) 8 (tokK f5 L (tokP f5 L p))) 9 (tokN f5 L (tokP f5 L p))) 10 w10_7) (va_up (va_up A 13 g13) 5 f5)) := hD
        refine ifneB (tgt := 66) hx hb dX12_isCard_61 (by decide) (fun c61 => ?_) (fun c61 => ?_)
        · replace c61 : (tokK f5 L (tokP f5 L p) = -1 ∧ (nI 0) ≤ tokN f5 L (tokP f5 L p) ∧ tokN f5 L (tokP f5 L p) ≤ (g13 1 - nI 1)) := c61
          refine lv_aload_n hx hb dX12_isCard_66 rfl (lv_at hl 2 rfl) ?_
          refine va_get (ci := 11) (v := .int (tokN f5 L (tokP f5 L p))) (C := RX12) (T := TX12) (N := 24) hx hb hts hinX12 hown hK hP 0 rfl rfl 9 (by decide) hf87 (fun _ h9 => h9) rfl dX12_isCard_67 ?_
          refine lv_istore_n (lv' := [(3, .int (tokN f5 L (tokP f5 L p))), (2, .int (nI n)), (1, .int (srtF (tokK f5 L p))), (0, .ref h)]) hx hb dX12_isCard_70 rfl hl (by decide) rfl (fun ls hl => ?_)
          refine lv_aload_n hx hb dX12_isCard_71 rfl (lv_at hl 3 rfl) ?_
          refine va_get (ci := 11) (v := .ref (r 13)) (C := RX12) (T := TX12) (N := 24) hx hb hts hinX12 hown hK hP 0 rfl rfl 13 (by decide) hf25 (fun _ h9 => h9) rfl dX12_isCard_72 ?_
          refine lv_iload_n hx hb dX12_isCard_75 rfl (lv_at hl 0 rfl) ?_
          refine call_i (wr := [(h, .inr (11, mO r (upd (upd (upd (upd (upd (upd v 4 (nI L)) 7 (nI (tokP f5 L p))) 6 (nI q_7)) 8 (tokK f5 L (tokP f5 L p))) 9 (tokN f5 L (tokP f5 L p))) 10 w10_7))), ((r 0), wInt (cy 0) 8 (A 0)), ((r 1), wInt (cy 0) 8 (A 1)), ((r 2), wInt (cy 0) 320 (A 2)), ((r 5), wInt (cy 0) 60 f5), ((r 12), wInt (cy 0) 37 (A 12)), ((r 14), wInt (cy 0) 37 (A 14)), ((r 15), wInt (cy 0) 37 (A 15)), ((r 16), wInt (cy 0) 74 (A 16)), ((r 17), wInt (cy 1) 2 (A 17)), ((r 18), wInt (cy 0) 888 (A 18)), ((r 20), wInt (cy 0) 16 (A 20)), ((r 22), wInt (cy 0) 16 (A 22)), ((r 23), wInt (cy 0) 24 (A 23))]) (ws' := (fun _ : Unit => mW cy h r (upd (upd (upd (upd (upd (upd v 4 (nI L)) 7 (nI (tokP f5 L p))) 6 (nI q_7)) 8 (tokK f5 L (tokP f5 L p))) 9 (tokN f5 L (tokP f5 L p))) 10 w10_7) (va_up (va_up A 13 g13) 5 f5))) (va_runS (As := [.ref (r 13), .int (tokN f5 L (tokP f5 L p))]) (rest := []) CF (k_X12_inDrawer l D cy _ (r 13) g13 (tokN f5 L (tokP f5 L p)) n (by first | assumption | omega | decide) h3) (va_cwS 2 hts gX12_isCard_X12_inDrawer rfl rfl rfl (by decide +kernel) ⟨Nat.le_of_ble_eq_true rfl, Nat.le_of_ble_eq_true rfl⟩) (pre_S hKN hP hD [6] rfl (by decide)) rfl rfl hl.1 rfl (lv_room (Nat.le_of_ble_eq_true rfl)) dX12_isCard_76 ⟨Nat.le_of_ble_eq_true rfl, Nat.le_of_ble_eq_true rfl⟩) hS hA hP hD [6] [0, 1, 2, 3, 4, 5, 7, 8, 9, 10, 11, 12, 13, 14] [0, 1, 2, 3, 4, 5, 14, 6, 7, 8, 9, 10, 11, 12, 13] rfl rfl (by decide) (by decide) (fun _ => rfl) (by decide) (fun r11 u10 H locs hw12 hP hD hS => ?_)
          replace hw12 := hw12.symm; subst hw12
          refine lv_aload_n hx hb dX12_isCard_79 rfl (lv_at hl 3 rfl) ?_
          refine va_get (ci := 11) (v := .ref (r 13)) (C := RX12) (T := TX12) (N := 24) hx hb hts hinX12 hown hK hP 0 rfl rfl 13 (by decide) hf25 (fun _ h9 => h9) rfl dX12_isCard_80 ?_
          refine lv_iconst (v := nI 2) hx hb dX12_isCard_83 (by decide) ?_
          refine ldN (f := g13) hx hb hK hP 6 rfl (j := 2) (by omega) (by decide) dX12_isCard_84 ?_
          refine lv_icmp_lt (tgt := 94) hx hb dX12_isCard_85 (by decide) (fun c85 => ?_) (fun c85 => ?_)
          · refine lv_aload_n hx hb dX12_isCard_94 rfl (lv_at hl 3 rfl) ?_
            refine lv_bipush (v := nI 44) hx hb dX12_isCard_95 (by decide) ?_
            refine call_i (wr := []) (ws' := (fun u13 : Nat × Int32 => mW cy h r (upd (upd (upd (upd (upd (upd v 4 (nI L)) 7 (nI q_7)) 6 (nI u13.1)) 8 (tokK f5 L q_7)) 9 (tokN f5 L q_7)) 10 u13.2) (va_up (va_up A 13 g13) 5 f5))) (va_runV (As := [.int (nI 44)]) (rest := []) CF (k_X12_isSign l D cy _ h r (upd (upd (upd (upd v 7 (nI (tokP f5 L p))) 8 (tokK f5 L (tokP f5 L p))) 9 (tokN f5 L (tokP f5 L p))) 10 w10_7) (va_up A 13 g13) f5 L q_7 (nI 44) (by first | assumption | omega | decide) (by first | assumption | omega | decide)) (cwV 1 hts gX12_isCard_X12_isSign rfl rfl rfl (by decide +kernel) ⟨Nat.le_of_ble_eq_true rfl, Nat.le_of_ble_eq_true rfl⟩) (pre_V hKN hP hD [0, 1, 2, 3, 4, 5, 6, 7, 8, 9, 10, 11, 12, 13, 14] rfl (by decide) 0 11 rfl rfl) rfl rfl hl.1 rfl (lv_room (Nat.le_of_ble_eq_true rfl)) dX12_isCard_97 ⟨Nat.le_of_ble_eq_true rfl, Nat.le_of_ble_eq_true rfl⟩) hS hA hP hD [0, 1, 2, 3, 4, 5, 6, 7, 8, 9, 10, 11, 12, 13, 14] [] [0, 1, 2, 3, 4, 5, 6, 7, 8, 9, 10, 11, 12, 13, 14] rfl rfl (by decide) (by decide) (fun _ => rfl) (by decide) (fun r14 u13 H locs hw15 hP hD hS => ?_)
            obtain ⟨hw15a, hw15⟩ := hw15
            replace hw15a := hw15a.symm; subst hw15a
            obtain ⟨q_13, w10_13⟩ := u13
            try dsimp only at hw15
            have le_13 : q_13 ≤ L := (by rw [hw15.1]; exact tokP_le (by first | assumption | exact Nat.zero_le _))
            have hP : va_P D vwCl (mW cy h r (upd (upd (upd (upd (upd (upd v 4 (nI L)) 7 (nI q_7)) 6 (nI q_13)) 8 (tokK f5 L q_7)) 9 (tokN f5 L q_7)) 10 w10_13) (va_up (va_up A 13 g13) 5 f5)) H := hP
            have hD : va_D A_ (mW cy h r (upd (upd (upd (upd (upd (upd v 4 (nI L)) 7 (nI q_7)) 6 (nI q_13)) 8 (tokK f5 L q_7)) 9 (tokN f5 L q_7)) 10 w10_13) (va_up (va_up A 13 g13) 5 f5)) := hD
            refine ifeqB (tgt := 113) hx hb dX12_isCard_100 (by decide) (fun c100 => ?_) (fun c100 => ?_)
            · replace c100 : ¬ (tokK f5 L q_7 = (nI 44)) := c100
              refine lv_iconst (v := nI 0) hx hb dX12_isCard_113 (by decide) ?_
              exact ret _ ((nI q_13), (nI q_7), (tokK f5 L q_7), (tokN f5 L q_7), w10_13, g13) _ _ _ _ dX12_isCard_114 rfl (by have l2 : q_7 = lp f5 L p 2 := hw9.1; have l3 : q_13 = lp f5 L p 3 := (by rw [hw15.1, l2]; rfl); subst l2; subst l3; exact crdR4 (crdS_n c4 c20) c39 c61 c85 c100 (hw15.2.trans (if_neg c100))) hP hD hS
            · replace c100 : (tokK f5 L q_7 = (nI 44)) := c100
              refine lv_aload_n hx hb dX12_isCard_103 rfl (lv_at hl 3 rfl) ?_
              refine lv_iconst (v := nI 0) hx hb dX12_isCard_104 (by decide) ?_
              refine lv_bipush (v := nI 7) hx hb dX12_isCard_105 (by decide) ?_
              refine call_i (wr := []) (ws' := (fun u16 : Nat × Int32 => mW cy h r (upd (upd (upd (upd (upd (upd v 4 (nI L)) 7 (nI q_13)) 6 (nI u16.1)) 8 (tokK f5 L q_13)) 9 (tokN f5 L q_13)) 10 u16.2) (va_up (va_up A 13 g13) 5 f5))) (va_runV (As := [.int (nI 0), .int (nI 7)]) (rest := []) CF (k_X12_isNumber l D cy _ h r (upd (upd (upd (upd v 7 (nI q_7)) 8 (tokK f5 L q_7)) 9 (tokN f5 L q_7)) 10 w10_13) (va_up A 13 g13) f5 L q_13 (nI 0) (nI 7) (by first | assumption | omega | decide) (by first | assumption | omega | decide)) (cwV 2 hts gX12_isCard_X12_isNumber rfl rfl rfl (by decide +kernel) ⟨Nat.le_of_ble_eq_true rfl, Nat.le_of_ble_eq_true rfl⟩) (pre_V hKN hP hD [0, 1, 2, 3, 4, 5, 6, 7, 8, 9, 10, 11, 12, 13, 14] rfl (by decide) 0 11 rfl rfl) rfl rfl hl.1 rfl (lv_room (Nat.le_of_ble_eq_true rfl)) dX12_isCard_107 ⟨Nat.le_of_ble_eq_true rfl, Nat.le_of_ble_eq_true rfl⟩) hS hA hP hD [0, 1, 2, 3, 4, 5, 6, 7, 8, 9, 10, 11, 12, 13, 14] [] [0, 1, 2, 3, 4, 5, 6, 7, 8, 9, 10, 11, 12, 13, 14] rfl rfl (by decide) (by decide) (fun _ => rfl) (by decide) (fun r17 u16 H locs hw18 hP hD hS => ?_)
              obtain ⟨hw18a, hw18⟩ := hw18
              replace hw18a := hw18a.symm; subst hw18a
              obtain ⟨q_16, w10_16⟩ := u16
              try dsimp only at hw18
              have le_16 : q_16 ≤ L := (by rw [hw18.1]; exact tokP_le (by first | assumption | exact Nat.zero_le _))
              have hP : va_P D vwCl (mW cy h r (upd (upd (upd (upd (upd (upd v 4 (nI L)) 7 (nI q_13)) 6 (nI q_16)) 8 (tokK f5 L q_13)) 9 (tokN f5 L q_13)) 10 w10_16) (va_up (va_up A 13 g13) 5 f5)) H := hP
              have hD : va_D A_ (mW cy h r (upd (upd (upd (upd (upd (upd v 4 (nI L)) 7 (nI q_13)) 6 (nI q_16)) 8 (tokK f5 L q_13)) 9 (tokN f5 L q_13)) 10 w10_16) (va_up (va_up A 13 g13) 5 f5)) := hD
              refine ifneB (tgt := 115) hx hb dX12_isCard_110 (by decide) (fun c110 => ?_) (fun c110 => ?_)
              · replace c110 : (tokK f5 L q_13 = -1 ∧ (nI 0) ≤ tokN f5 L q_13 ∧ tokN f5 L q_13 ≤ (nI 7)) := c110
                refine lv_aload_n hx hb dX12_isCard_115 rfl (lv_at hl 3 rfl) ?_
                refine va_get (ci := 11) (v := .int (tokN f5 L q_13)) (C := RX12) (T := TX12) (N := 24) hx hb hts hinX12 hown hK hP 0 rfl rfl 9 (by decide) hf87 (fun _ h9 => h9) rfl dX12_isCard_116 ?_
                refine lv_iload_n hx hb dX12_isCard_119 rfl (lv_at hl 1 rfl) ?_
                refine lv_icmp_ne (tgt := 129) hx hb dX12_isCard_120 (by decide) (fun c120 => ?_) (fun c120 => ?_)
                · refine lv_aload_n hx hb dX12_isCard_129 rfl (lv_at hl 3 rfl) ?_
                  refine va_get (ci := 11) (v := .ref (r 13)) (C := RX12) (T := TX12) (N := 24) hx hb hts hinX12 hown hK hP 0 rfl rfl 13 (by decide) hf25 (fun _ h9 => h9) rfl dX12_isCard_130 ?_
                  refine lv_bipush (v := nI 29) hx hb dX12_isCard_133 (by decide) ?_
                  refine lv_iload_n hx hb dX12_isCard_135 rfl (lv_at hl 1 rfl) ?_
                  refine adN (k := 29 + n) hx hb rfl dX12_isCard_136 ?_
                  refine lv_aload_n hx hb dX12_isCard_137 rfl (lv_at hl 3 rfl) ?_
                  refine va_get (ci := 11) (v := .ref (r 13)) (C := RX12) (T := TX12) (N := 24) hx hb hts hinX12 hown hK hP 0 rfl rfl 13 (by decide) hf25 (fun _ h9 => h9) rfl dX12_isCard_138 ?_
                  refine lv_iload_n hx hb dX12_isCard_141 rfl (lv_at hl 0 rfl) ?_
                  refine call_i (wr := [(h, .inr (11, mO r (upd (upd (upd (upd (upd (upd v 4 (nI L)) 7 (nI q_13)) 6 (nI q_16)) 8 (tokK f5 L q_13)) 9 (tokN f5 L q_13)) 10 w10_16))), ((r 0), wInt (cy 0) 8 (A 0)), ((r 1), wInt (cy 0) 8 (A 1)), ((r 2), wInt (cy 0) 320 (A 2)), ((r 5), wInt (cy 0) 60 f5), ((r 12), wInt (cy 0) 37 (A 12)), ((r 14), wInt (cy 0) 37 (A 14)), ((r 15), wInt (cy 0) 37 (A 15)), ((r 16), wInt (cy 0) 74 (A 16)), ((r 17), wInt (cy 1) 2 (A 17)), ((r 18), wInt (cy 0) 888 (A 18)), ((r 20), wInt (cy 0) 16 (A 20)), ((r 22), wInt (cy 0) 16 (A 22)), ((r 23), wInt (cy 0) 24 (A 23))]) (ws' := (fun _ : Unit => mW cy h r (upd (upd (upd (upd (upd (upd v 4 (nI L)) 7 (nI q_13)) 6 (nI q_16)) 8 (tokK f5 L q_13)) 9 (tokN f5 L q_13)) 10 w10_16) (va_up (va_up A 13 g13) 5 f5))) (va_runS (As := [.ref (r 13), .int (tokN f5 L (tokP f5 L p))]) (rest := [.int (nI (29 + n)), .ref (r 13)]) CF (k_X12_inDrawer l D cy _ (r 13) g13 (tokN f5 L (tokP f5 L p)) n (by first | assumption | omega | decide) h3) (va_cwS 2 hts gX12_isCard_X12_inDrawer rfl rfl rfl (by decide +kernel) ⟨Nat.le_of_ble_eq_true rfl, Nat.le_of_ble_eq_true rfl⟩) (pre_S hKN hP hD [6] rfl (by decide)) rfl rfl hl.1 rfl (lv_room (Nat.le_of_ble_eq_true rfl)) dX12_isCard_142 ⟨Nat.le_of_ble_eq_true rfl, Nat.le_of_ble_eq_true rfl⟩) hS hA hP hD [6] [0, 1, 2, 3, 4, 5, 7, 8, 9, 10, 11, 12, 13, 14] [0, 1, 2, 3, 4, 5, 14, 6, 7, 8, 9, 10, 11, 12, 13] rfl rfl (by decide) (by decide) (fun _ => rfl) (by decide) (fun r20 u19 H locs hw21 hP hD hS => ?_)
                  replace hw21 := hw21.symm; subst hw21
                  refine stN (f := g13) (ws' := mW cy h r (upd (upd (upd (upd (upd (upd v 4 (nI L)) 7 (nI q_13)) 6 (nI q_16)) 8 (tokK f5 L q_13)) 9 (tokN f5 L q_13)) 10 w10_16) (va_up (va_up A 5 f5) 13 (upd g13 (29 + n) (fillN g13 (tokN f5 L (tokP f5 L p)) n)))) hx hb hK hP hD hS 6 rfl (j := 29 + n) (by omega) (by decide) dX12_isCard_145 rfl (fun H locs hP hD hS => ?_)
                  refine lv_aload_n hx hb dX12_isCard_146 rfl (lv_at hl 3 rfl) ?_
                  refine va_get (ci := 11) (v := .ref (r 13)) (C := RX12) (T := TX12) (N := 24) hx hb hts hinX12 hown hK hP 0 rfl rfl 13 (by decide) hf25 (fun _ h9 => h9) rfl dX12_isCard_147 ?_
                  refine lv_bipush (v := nI 21) hx hb dX12_isCard_150 (by decide) ?_
                  refine lv_iload_n hx hb dX12_isCard_152 rfl (lv_at hl 1 rfl) ?_
                  refine adN (k := 21 + n) hx hb rfl dX12_isCard_153 ?_
                  refine lv_iload_n hx hb dX12_isCard_154 rfl (lv_at hl 0 rfl) ?_
                  refine stN (f := upd g13 (29 + n) (fillN g13 (tokN f5 L (tokP f5 L p)) n)) (ws' := mW cy h r (upd (upd (upd (upd (upd (upd v 4 (nI L)) 7 (nI q_13)) 6 (nI q_16)) 8 (tokK f5 L q_13)) 9 (tokN f5 L q_13)) 10 w10_16) (va_up (va_up A 5 f5) 13 (upd (upd g13 (29 + n) (fillN g13 (tokN f5 L (tokP f5 L p)) n)) (21 + n) (tokN f5 L (tokP f5 L p))))) hx hb hK hP hD hS 6 rfl (j := 21 + n) (by omega) (by decide) dX12_isCard_155 rfl (fun H locs hP hD hS => ?_)
                  refine lv_aload_n hx hb dX12_isCard_156 rfl (lv_at hl 3 rfl) ?_
                  refine va_get (ci := 11) (v := .ref (r 13)) (C := RX12) (T := TX12) (N := 24) hx hb hts hinX12 hown hK hP 0 rfl rfl 13 (by decide) hf25 (fun _ h9 => h9) rfl dX12_isCard_157 ?_
                  refine lv_iconst (v := nI 5) hx hb dX12_isCard_160 (by decide) ?_
                  refine lv_iload_n hx hb dX12_isCard_161 rfl (lv_at hl 1 rfl) ?_
                  refine adN (k := 5 + n) hx hb rfl dX12_isCard_162 ?_
                  refine lv_iload_n hx hb dX12_isCard_163 rfl (lv_at hl 2 rfl) ?_
                  refine stN (f := upd (upd g13 (29 + n) (fillN g13 (tokN f5 L (tokP f5 L p)) n)) (21 + n) (tokN f5 L (tokP f5 L p))) (ws' := mW cy h r (upd (upd (upd (upd (upd (upd v 4 (nI L)) 7 (nI q_13)) 6 (nI q_16)) 8 (tokK f5 L q_13)) 9 (tokN f5 L q_13)) 10 w10_16) (va_up (va_up A 5 f5) 13 (upd (upd (upd g13 (29 + n) (fillN g13 (tokN f5 L (tokP f5 L p)) n)) (21 + n) (tokN f5 L (tokP f5 L p))) (5 + n) (srtF (tokK f5 L p))))) hx hb hK hP hD hS 6 rfl (j := 5 + n) (by omega) (by decide) dX12_isCard_164 rfl (fun H locs hP hD hS => ?_)
                  refine lv_aload_n hx hb dX12_isCard_165 rfl (lv_at hl 3 rfl) ?_
                  refine va_get (ci := 11) (v := .ref (r 13)) (C := RX12) (T := TX12) (N := 24) hx hb hts hinX12 hown hK hP 0 rfl rfl 13 (by decide) hf25 (fun _ h9 => h9) rfl dX12_isCard_166 ?_
                  refine lv_bipush (v := nI 13) hx hb dX12_isCard_169 (by decide) ?_
                  refine lv_iload_n hx hb dX12_isCard_171 rfl (lv_at hl 1 rfl) ?_
                  refine adN (k := 13 + n) hx hb rfl dX12_isCard_172 ?_
                  refine lv_aload_n hx hb dX12_isCard_173 rfl (lv_at hl 3 rfl) ?_
                  refine va_get (ci := 11) (v := .int (tokN f5 L q_13)) (C := RX12) (T := TX12) (N := 24) hx hb hts hinX12 hown hK hP 0 rfl rfl 9 (by decide) hf87 (fun _ h9 => h9) rfl dX12_isCard_174 ?_
                  refine stN (f := upd (upd (upd g13 (29 + n) (fillN g13 (tokN f5 L (tokP f5 L p)) n)) (21 + n) (tokN f5 L (tokP f5 L p))) (5 + n) (srtF (tokK f5 L p))) (ws' := mW cy h r (upd (upd (upd (upd (upd (upd v 4 (nI L)) 7 (nI q_13)) 6 (nI q_16)) 8 (tokK f5 L q_13)) 9 (tokN f5 L q_13)) 10 w10_16) (va_up (va_up A 5 f5) 13 (upd (upd (upd (upd g13 (29 + n) (fillN g13 (tokN f5 L (tokP f5 L p)) n)) (21 + n) (tokN f5 L (tokP f5 L p))) (5 + n) (srtF (tokK f5 L p))) (13 + n) (tokN f5 L q_13)))) hx hb hK hP hD hS 6 rfl (j := 13 + n) (by omega) (by decide) dX12_isCard_177 rfl (fun H locs hP hD hS => ?_)
                  refine lv_aload_n hx hb dX12_isCard_178 rfl (lv_at hl 3 rfl) ?_
                  refine va_get (ci := 11) (v := .ref (r 13)) (C := RX12) (T := TX12) (N := 24) hx hb hts hinX12 hown hK hP 0 rfl rfl 13 (by decide) hf25 (fun _ h9 => h9) rfl dX12_isCard_179 ?_
                  refine lv_iconst (v := nI 3) hx hb dX12_isCard_182 (by decide) ?_
                  refine lv_dup2_11 hx hb dX12_isCard_183 rfl rfl ?_
                  refine ldN (f := upd (upd (upd (upd g13 (29 + n) (fillN g13 (tokN f5 L (tokP f5 L p)) n)) (21 + n) (tokN f5 L (tokP f5 L p))) (5 + n) (srtF (tokK f5 L p))) (13 + n) (tokN f5 L q_13)) hx hb hK hP 6 rfl (j := 3) (by omega) (by decide) dX12_isCard_184 ?_
                  refine lv_iconst (v := nI 1) hx hb dX12_isCard_185 (by decide) ?_
                  refine lv_iadd hx hb dX12_isCard_186 ?_
                  refine stN (f := upd (upd (upd (upd g13 (29 + n) (fillN g13 (tokN f5 L (tokP f5 L p)) n)) (21 + n) (tokN f5 L (tokP f5 L p))) (5 + n) (srtF (tokK f5 L p))) (13 + n) (tokN f5 L q_13)) (ws' := mW cy h r (upd (upd (upd (upd (upd (upd v 4 (nI L)) 7 (nI q_13)) 6 (nI q_16)) 8 (tokK f5 L q_13)) 9 (tokN f5 L q_13)) 10 w10_16) (va_up (va_up A 5 f5) 13 (upd (upd (upd (upd (upd g13 (29 + n) (fillN g13 (tokN f5 L (tokP f5 L p)) n)) (21 + n) (tokN f5 L (tokP f5 L p))) (5 + n) (srtF (tokK f5 L p))) (13 + n) (tokN f5 L q_13)) 3 ((upd (upd (upd (upd g13 (29 + n) (fillN g13 (tokN f5 L (tokP f5 L p)) n)) (21 + n) (tokN f5 L (tokP f5 L p))) (5 + n) (srtF (tokK f5 L p))) (13 + n) (tokN f5 L q_13)) 3 + nI 1)))) hx hb hK hP hD hS 6 rfl (j := 3) (by omega) (by decide) dX12_isCard_187 rfl (fun H locs hP hD hS => ?_)
                  refine lv_aload_n hx hb dX12_isCard_188 rfl (lv_at hl 3 rfl) ?_
                  refine lv_bipush (v := nI 59) hx hb dX12_isCard_189 (by decide) ?_
                  refine call_i (wr := []) (ws' := (fun u22 : Nat × Int32 => mW cy h r (upd (upd (upd (upd (upd (upd v 4 (nI L)) 7 (nI q_16)) 6 (nI u22.1)) 8 (tokK f5 L q_16)) 9 (tokN f5 L q_16)) 10 u22.2) (va_up (va_up A 13 (upd (upd (upd (upd (upd g13 (29 + n) (fillN g13 (tokN f5 L (tokP f5 L p)) n)) (21 + n) (tokN f5 L (tokP f5 L p))) (5 + n) (srtF (tokK f5 L p))) (13 + n) (tokN f5 L q_13)) 3 ((upd (upd (upd (upd g13 (29 + n) (fillN g13 (tokN f5 L (tokP f5 L p)) n)) (21 + n) (tokN f5 L (tokP f5 L p))) (5 + n) (srtF (tokK f5 L p))) (13 + n) (tokN f5 L q_13)) 3 + nI 1))) 5 f5))) (va_runV (As := [.int (nI 59)]) (rest := []) CF (k_X12_isSign l D cy _ h r (upd (upd (upd (upd v 7 (nI q_13)) 8 (tokK f5 L q_13)) 9 (tokN f5 L q_13)) 10 w10_16) (va_up A 13 (upd (upd (upd (upd (upd g13 (29 + n) (fillN g13 (tokN f5 L (tokP f5 L p)) n)) (21 + n) (tokN f5 L (tokP f5 L p))) (5 + n) (srtF (tokK f5 L p))) (13 + n) (tokN f5 L q_13)) 3 ((upd (upd (upd (upd g13 (29 + n) (fillN g13 (tokN f5 L (tokP f5 L p)) n)) (21 + n) (tokN f5 L (tokP f5 L p))) (5 + n) (srtF (tokK f5 L p))) (13 + n) (tokN f5 L q_13)) 3 + nI 1))) f5 L q_16 (nI 59) (by first | assumption | omega | decide) (by first | assumption | omega | decide)) (cwV 1 hts gX12_isCard_X12_isSign rfl rfl rfl (by decide +kernel) ⟨Nat.le_of_ble_eq_true rfl, Nat.le_of_ble_eq_true rfl⟩) (pre_V hKN hP hD [0, 1, 2, 3, 4, 5, 6, 7, 8, 9, 10, 11, 12, 13, 14] rfl (by decide) 0 11 rfl rfl) rfl rfl hl.1 rfl (lv_room (Nat.le_of_ble_eq_true rfl)) dX12_isCard_191 ⟨Nat.le_of_ble_eq_true rfl, Nat.le_of_ble_eq_true rfl⟩) hS hA hP hD [0, 1, 2, 3, 4, 5, 6, 7, 8, 9, 10, 11, 12, 13, 14] [] [0, 1, 2, 3, 4, 5, 6, 7, 8, 9, 10, 11, 12, 13, 14] rfl rfl (by decide) (by decide) (fun _ => rfl) (by decide) (fun r23 u22 H locs hw24 hP hD hS => ?_)
                  obtain ⟨hw24a, hw24⟩ := hw24
                  replace hw24a := hw24a.symm; subst hw24a
                  obtain ⟨q_22, w10_22⟩ := u22
                  try dsimp only at hw24
                  have le_22 : q_22 ≤ L := (by rw [hw24.1]; exact tokP_le (by first | assumption | exact Nat.zero_le _))
                  have hP : va_P D vwCl (mW cy h r (upd (upd (upd (upd (upd (upd v 4 (nI L)) 7 (nI q_16)) 6 (nI q_22)) 8 (tokK f5 L q_16)) 9 (tokN f5 L q_16)) 10 w10_22) (va_up (va_up A 13 (upd (upd (upd (upd (upd g13 (29 + n) (fillN g13 (tokN f5 L (tokP f5 L p)) n)) (21 + n) (tokN f5 L (tokP f5 L p))) (5 + n) (srtF (tokK f5 L p))) (13 + n) (tokN f5 L q_13)) 3 ((upd (upd (upd (upd g13 (29 + n) (fillN g13 (tokN f5 L (tokP f5 L p)) n)) (21 + n) (tokN f5 L (tokP f5 L p))) (5 + n) (srtF (tokK f5 L p))) (13 + n) (tokN f5 L q_13)) 3 + nI 1))) 5 f5)) H := hP
                  have hD : va_D A_ (mW cy h r (upd (upd (upd (upd (upd (upd v 4 (nI L)) 7 (nI q_16)) 6 (nI q_22)) 8 (tokK f5 L q_16)) 9 (tokN f5 L q_16)) 10 w10_22) (va_up (va_up A 13 (upd (upd (upd (upd (upd g13 (29 + n) (fillN g13 (tokN f5 L (tokP f5 L p)) n)) (21 + n) (tokN f5 L (tokP f5 L p))) (5 + n) (srtF (tokK f5 L p))) (13 + n) (tokN f5 L q_13)) 3 ((upd (upd (upd (upd g13 (29 + n) (fillN g13 (tokN f5 L (tokP f5 L p)) n)) (21 + n) (tokN f5 L (tokP f5 L p))) (5 + n) (srtF (tokK f5 L p))) (13 + n) (tokN f5 L q_13)) 3 + nI 1))) 5 f5)) := hD
                  exact ret _ ((nI q_22), (nI q_16), (tokK f5 L q_16), (tokN f5 L q_16), w10_22, (upd (upd (upd (upd (upd g13 (29 + n) (fillN g13 (tokN f5 L (tokP f5 L p)) n)) (21 + n) (tokN f5 L (tokP f5 L p))) (5 + n) (srtF (tokK f5 L p))) (13 + n) (tokN f5 L q_13)) 3 ((upd (upd (upd (upd g13 (29 + n) (fillN g13 (tokN f5 L (tokP f5 L p)) n)) (21 + n) (tokN f5 L (tokP f5 L p))) (5 + n) (srtF (tokK f5 L p))) (13 + n) (tokN f5 L q_13)) 3 + nI 1))) _ _ _ _ dX12_isCard_194 bI_nar (by have l2 : q_7 = lp f5 L p 2 := hw9.1; have l3 : q_13 = lp f5 L p 3 := (by rw [hw15.1, l2]; rfl); have l4 : q_16 = lp f5 L p 4 := (by rw [hw18.1, l3]; rfl); have l5 : q_22 = lp f5 L p 5 := (by rw [hw24.1, l4]; rfl); subst l2; subst l3; subst l4; subst l5; exact crdR8 c4 c20 c39 c61 c85 c100 c110 c120 rfl (fun z => hw24.2.trans (if_neg z))) hP hD hS
                · refine lv_aload_n hx hb dX12_isCard_123 rfl (lv_at hl 3 rfl) ?_
                  refine lv_iconst (v := nI 2) hx hb dX12_isCard_124 (by decide) ?_
                  refine call_i (wr := []) (ws' := (fun _ : Unit => mW cy h r (upd (upd (upd (upd (upd (upd v 4 (nI L)) 7 (nI q_13)) 6 (nI q_16)) 8 (tokK f5 L q_13)) 9 (tokN f5 L q_13)) 10 (nI 2)) (va_up (va_up A 13 g13) 5 f5))) (va_runV (As := [.int (nI 2)]) (rest := []) CF (k_X12_fails l D cy _ h r (upd (upd (upd (upd (upd (upd v 4 (nI L)) 7 (nI q_13)) 6 (nI q_16)) 8 (tokK f5 L q_13)) 9 (tokN f5 L q_13)) 10 w10_16) (va_up (va_up A 13 g13) 5 f5) 2 ) (cwV 1 hts gX12_isCard_X12_fails rfl rfl rfl (by decide +kernel) ⟨Nat.le_of_ble_eq_true rfl, Nat.le_of_ble_eq_true rfl⟩) (pre_V hKN hP hD [0, 1, 2, 3, 4, 5, 6, 7, 8, 9, 10, 11, 12, 13, 14] rfl (by decide) 0 11 rfl rfl) rfl rfl hl.1 rfl (lv_room (Nat.le_of_ble_eq_true rfl)) dX12_isCard_125 ⟨Nat.le_of_ble_eq_true rfl, Nat.le_of_ble_eq_true rfl⟩) hS hA hP hD [0, 1, 2, 3, 4, 5, 6, 7, 8, 9, 10, 11, 12, 13, 14] [] [0, 1, 2, 3, 4, 5, 6, 7, 8, 9, 10, 11, 12, 13, 14] rfl rfl (by decide) (by decide) (fun _ => rfl) (by decide) (fun r26 u25 H locs hw27 hP hD hS => ?_)
                  replace hw27 := hw27.symm; subst hw27
                  exact ret _ ((nI q_16), (nI q_13), (tokK f5 L q_13), (tokN f5 L q_13), (nI 2), g13) _ _ _ _ dX12_isCard_128 rfl (by have l2 : q_7 = lp f5 L p 2 := hw9.1; have l3 : q_13 = lp f5 L p 3 := (by rw [hw15.1, l2]; rfl); have l4 : q_16 = lp f5 L p 4 := (by rw [hw18.1, l3]; rfl); subst l2; subst l3; subst l4; exact crdR6 (crdS_n c4 c20) c39 c61 c85 c100 c110 c120) hP hD hS
              · replace c110 : ¬ (tokK f5 L q_13 = -1 ∧ (nI 0) ≤ tokN f5 L q_13 ∧ tokN f5 L q_13 ≤ (nI 7)) := c110
                refine lv_iconst (v := nI 0) hx hb dX12_isCard_113 (by decide) ?_
                exact ret _ ((nI q_16), (nI q_13), (tokK f5 L q_13), (tokN f5 L q_13), w10_16, g13) _ _ _ _ dX12_isCard_114 rfl (by have l2 : q_7 = lp f5 L p 2 := hw9.1; have l3 : q_13 = lp f5 L p 3 := (by rw [hw15.1, l2]; rfl); have l4 : q_16 = lp f5 L p 4 := (by rw [hw18.1, l3]; rfl); subst l2; subst l3; subst l4; exact crdR5 (crdS_n c4 c20) c39 c61 c85 c100 c110 (hw18.2.trans (numX_e c110))) hP hD hS
          · refine lv_aload_n hx hb dX12_isCard_88 rfl (lv_at hl 3 rfl) ?_
            refine lv_iconst (v := nI 2) hx hb dX12_isCard_89 (by decide) ?_
            refine call_i (wr := []) (ws' := (fun _ : Unit => mW cy h r (upd (upd (upd (upd (upd (upd v 4 (nI L)) 7 (nI (tokP f5 L p))) 6 (nI q_7)) 8 (tokK f5 L (tokP f5 L p))) 9 (tokN f5 L (tokP f5 L p))) 10 (nI 2)) (va_up (va_up A 13 g13) 5 f5))) (va_runV (As := [.int (nI 2)]) (rest := []) CF (k_X12_fails l D cy _ h r (upd (upd (upd (upd (upd (upd v 4 (nI L)) 7 (nI (tokP f5 L p))) 6 (nI q_7)) 8 (tokK f5 L (tokP f5 L p))) 9 (tokN f5 L (tokP f5 L p))) 10 w10_7) (va_up (va_up A 13 g13) 5 f5) 2 ) (cwV 1 hts gX12_isCard_X12_fails rfl rfl rfl (by decide +kernel) ⟨Nat.le_of_ble_eq_true rfl, Nat.le_of_ble_eq_true rfl⟩) (pre_V hKN hP hD [0, 1, 2, 3, 4, 5, 6, 7, 8, 9, 10, 11, 12, 13, 14] rfl (by decide) 0 11 rfl rfl) rfl rfl hl.1 rfl (lv_room (Nat.le_of_ble_eq_true rfl)) dX12_isCard_90 ⟨Nat.le_of_ble_eq_true rfl, Nat.le_of_ble_eq_true rfl⟩) hS hA hP hD [0, 1, 2, 3, 4, 5, 6, 7, 8, 9, 10, 11, 12, 13, 14] [] [0, 1, 2, 3, 4, 5, 6, 7, 8, 9, 10, 11, 12, 13, 14] rfl rfl (by decide) (by decide) (fun _ => rfl) (by decide) (fun r29 u28 H locs hw30 hP hD hS => ?_)
            replace hw30 := hw30.symm; subst hw30
            exact ret _ ((nI q_7), (nI (tokP f5 L p)), (tokK f5 L (tokP f5 L p)), (tokN f5 L (tokP f5 L p)), (nI 2), g13) _ _ _ _ dX12_isCard_93 rfl (by have l2 : q_7 = lp f5 L p 2 := hw9.1; subst l2; exact crdR3 (crdS_n c4 c20) c39 c61 c85) hP hD hS
        · replace c61 : ¬ (tokK f5 L (tokP f5 L p) = -1 ∧ (nI 0) ≤ tokN f5 L (tokP f5 L p) ∧ tokN f5 L (tokP f5 L p) ≤ (g13 1 - nI 1)) := c61
          refine lv_iconst (v := nI 0) hx hb dX12_isCard_64 (by decide) ?_
          exact ret _ ((nI q_7), (nI (tokP f5 L p)), (tokK f5 L (tokP f5 L p)), (tokN f5 L (tokP f5 L p)), w10_7, g13) _ _ _ _ dX12_isCard_65 rfl (by have l2 : q_7 = lp f5 L p 2 := hw9.1; subst l2; exact crdR2 (crdS_n c4 c20) c39 c61 (hw9.2.trans (numX_e c61))) hP hD hS
      · refine lv_aload_n hx hb dX12_isCard_42 rfl (lv_at hl 2 rfl) ?_
        refine lv_iconst (v := nI 3) hx hb dX12_isCard_43 (by decide) ?_
        refine call_i (wr := []) (ws' := (fun _ : Unit => mW cy h r (upd (upd (upd (upd (upd v 4 (nI L)) 7 (nI p)) 6 (nI (tokP f5 L p))) 8 (tokK f5 L p)) 10 (nI 3)) (va_up (va_up A 5 f5) 13 g13))) (va_runV (As := [.int (nI 3)]) (rest := []) CF (k_X12_fails l D cy _ h r (upd (upd (upd (upd v 4 (nI L)) 7 (nI p)) 6 (nI (tokP f5 L p))) 8 (tokK f5 L p)) (va_up (va_up A 5 f5) 13 g13) 3 ) (cwV 1 hts gX12_isCard_X12_fails rfl rfl rfl (by decide +kernel) ⟨Nat.le_of_ble_eq_true rfl, Nat.le_of_ble_eq_true rfl⟩) (pre_V hKN hP hD [0, 1, 2, 3, 4, 5, 6, 7, 8, 9, 10, 11, 12, 13, 14] rfl (by decide) 0 11 rfl rfl) rfl rfl hl.1 rfl (lv_room (Nat.le_of_ble_eq_true rfl)) dX12_isCard_44 ⟨Nat.le_of_ble_eq_true rfl, Nat.le_of_ble_eq_true rfl⟩) hS hA hP hD [0, 1, 2, 3, 4, 5, 6, 7, 8, 9, 10, 11, 12, 13, 14] [] [0, 1, 2, 3, 4, 5, 6, 7, 8, 9, 10, 11, 12, 13, 14] rfl rfl (by decide) (by decide) (fun _ => rfl) (by decide) (fun r32 u31 H locs hw33 hP hD hS => ?_)
        replace hw33 := hw33.symm; subst hw33
        exact ret _ ((nI (tokP f5 L p)), (nI p), (tokK f5 L p), (v 9), (nI 3), g13) _ _ _ _ dX12_isCard_47 rfl (crdR1 (crdS_n c4 c20) c39) hP hD hS
    · refine lv_aload_n hx hb dX12_isCard_23 rfl (lv_at hl 1 rfl) ?_
      refine lv_iconst (v := nI 1) hx hb dX12_isCard_24 (by decide) ?_
      refine call_i (wr := []) (ws' := (fun _ : Unit => mW cy h r (upd (upd (upd (upd (upd v 4 (nI L)) 7 (nI p)) 6 (nI (tokP f5 L p))) 8 (tokK f5 L p)) 10 (nI 1)) (va_up (va_up A 5 f5) 13 g13))) (va_runV (As := [.int (nI 1)]) (rest := []) CF (k_X12_fails l D cy _ h r (upd (upd (upd (upd v 4 (nI L)) 7 (nI p)) 6 (nI (tokP f5 L p))) 8 (tokK f5 L p)) (va_up (va_up A 5 f5) 13 g13) 1 ) (cwV 1 hts gX12_isCard_X12_fails rfl rfl rfl (by decide +kernel) ⟨Nat.le_of_ble_eq_true rfl, Nat.le_of_ble_eq_true rfl⟩) (pre_V hKN hP hD [0, 1, 2, 3, 4, 5, 6, 7, 8, 9, 10, 11, 12, 13, 14] rfl (by decide) 0 11 rfl rfl) rfl rfl hl.1 rfl (lv_room (Nat.le_of_ble_eq_true rfl)) dX12_isCard_25 ⟨Nat.le_of_ble_eq_true rfl, Nat.le_of_ble_eq_true rfl⟩) hS hA hP hD [0, 1, 2, 3, 4, 5, 6, 7, 8, 9, 10, 11, 12, 13, 14] [] [0, 1, 2, 3, 4, 5, 6, 7, 8, 9, 10, 11, 12, 13, 14] rfl rfl (by decide) (by decide) (fun _ => rfl) (by decide) (fun r35 u34 H locs hw36 hP hD hS => ?_)
      replace hw36 := hw36.symm; subst hw36
      exact ret _ ((nI (tokP f5 L p)), (nI p), (tokK f5 L p), (v 9), (nI 1), g13) _ _ _ _ dX12_isCard_28 rfl (crdR0 (crdS_0 c4 c20)) hP hD hS
