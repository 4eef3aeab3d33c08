set_option maxHeartbeats 4000000 in
set_option maxRecDepth 100000 in
theorem k_X12_isRead (l : Launch) (D : va_G) (cy : Nat → ClassId) (sz : Nat) (h : Nat) (r : Nat → Nat) (v : Nat → Int32) (A : Nat → Nat → Int32) (f5 : Nat → Int32) (L : Nat) (hL : L ≤ 60) : Met l yX12_isRead wsX12_isRead (rmD 4) (pPre D (TY cy) (mW cy h r (upd v 4 (nI L)) (va_up A 5 f5)) sz [.ref h]) (pI D (TY cy) (mW cy h r (upd v 4 (nI L)) (va_up A 5 f5)) sz (fun u : Int32 × Int32 × Int32 × Int32 × Int32 × (Nat → Int32) => mW cy h r (upd (upd (upd (upd (upd (upd v 4 (nI L)) 6 u.1) 7 u.2.1) 8 u.2.2.1) 9 u.2.2.2.1) 10 u.2.2.2.2.1) (va_up (va_up A 5 f5) 13 u.2.2.2.2.2)) (fun (r_ : Int32) (u : Int32 × Int32 × Int32 × Int32 × Int32 × (Nat → Int32)) => r_ = bI ((redF f5 L).1 = 0) ∧ ((redF f5 L).1 = 0 → u.2.2.2.2.2 = (redF f5 L).2.2.1) ∧ (¬ (redF f5 L).1 = 0 → u.2.1 = nI (redF f5 L).2.1 ∧ u.2.2.2.2.1 = nI (redF f5 L).1))) 0 0 (va_A (mW cy h r (upd v 4 (nI L)) (va_up A 5 f5)) sz) := by
  refine ent_z (cc := cX12_isRead) (maxL := 2) (by decide +kernel) rfl (Nat.le_of_ble_eq_true rfl) ?_
  intro p_ e_ s_ m_ args_ below_ meth_ c_ A_ Q_ ls B0 ret
  obtain ⟨CF, hA, hKN, hP, hD, hl⟩ := B0
  have hK := hKN.1
  obtain ⟨hx, hb, hml, hown, hts⟩ := id CF
  have hS : va_S A_ s_.heap s_.heap [] := va_S.rf
  have hl : lv_has ls 2 [(0, .ref h)] := hl
  have hf81 := hts (.fieldLink RX12 81 "DrawerCardsModel" "position" "I") (by decide +kernel)
  have hinX12 := show ∀ w ∈ u_ws RX12 TX12 24, w ∈ wsX12_isRead from by decide +kernel
  have hf25 := hts (.fieldLink RX12 25 "DrawerCardsModel" "read" "[I") (by decide +kernel)
  have hf90 := hts (.fieldLink RX12 90 "DrawerCardsModel" "token" "I") (by decide +kernel)
  refine lv_iconst (v := nI 0) hx hb dX12_isRead_0 (by decide) ?_
  refine lv_istore_n (lv' := [(1, .int (nI 0)), (0, .ref h)]) hx hb dX12_isRead_1 rfl hl (by decide) rfl (fun ls hl => ?_)
  have lp2 : ∀ f_ : Nat, ∀ (k : Nat) (f2 : Nat → Int32), (37 - k) < f_ → (k ≤ 37) → (∀ j, j < k → f2 j = nI 0) → ∀ (H : Heap) (locs : List Loc), va_P D vwCl (mW cy h r (upd v 4 (nI L)) (va_up (va_up A 5 f5) 13 f2)) H → va_D A_ (mW cy h r (upd v 4 (nI L)) (va_up (va_up A 5 f5) 13 f2)) → va_S A_ s_.heap H locs → ∀ ls : Array Slot, lv_has ls 2 [(0, .ref h), (1, .int (nI k))] → W p_ l e_ (rmD 4) s_ m_ args_ below_ meth_ c_ H locs 0 0 Q_ (F0 m_ 2 ls []) := by
    intro f_
    induction f_ with
    | zero => intro k f2 hm_; exact absurd hm_ (by omega)
    | succ f_ ih2 =>
      intro k f2 hm_ hk hz H locs hP hD hS ls hl
      refine lv_iload_n hx hb dX12_isRead_2 rfl (lv_at hl 1 rfl) ?_
      refine lv_bipush (v := nI 37) hx hb dX12_isRead_3 (by decide) ?_
      refine geN (tgt := 21) hx hb (by omega) (by decide) dX12_isRead_5 (by decide) (fun c5 => ?_) (fun c5 => ?_)
      · have hP : va_P D vwCl (mW cy h r (upd v 4 (nI L)) (va_up (va_up A 5 f5) 13 (fun _ => nI 0))) H := P_ext hP 6 rfl (fun j hj => hz j (by omega)) rfl
        have hD : va_D A_ (mW cy h r (upd v 4 (nI L)) (va_up (va_up A 5 f5) 13 (fun _ => nI 0))) := D_ext hD (q := 6) rfl rfl
        refine lv_aload_n hx hb dX12_isRead_21 rfl (lv_at hl 0 rfl) ?_
        refine lv_iconst (v := nI 0) hx hb dX12_isRead_22 (by decide) ?_
        refine va_put (ci := 11) (v := .int (nI 0)) (ty := .int) (C := RX12) (T := TX12) (N := 24) hx hb hts hinX12 tyX12 tyX12_ok nmX12 hown hK hP hD hS 0 rfl rfl 6 (by decide) hf81 (fun _ h9 => h9) rfl (by decide +kernel) rfl rfl (Nat.le_of_ble_eq_true rfl) dX12_isRead_23 (fun H locs hP hD hS => ?_)
        have hP : va_P D vwCl (mW cy h r (upd (upd v 4 (nI L)) 6 (nI 0)) (va_up (va_up A 5 f5) 13 (fun _ => nI 0))) H := hP
        have hD : va_D A_ (mW cy h r (upd (upd v 4 (nI L)) 6 (nI 0)) (va_up (va_up A 5 f5) 13 (fun _ => nI 0))) := hD
        refine lv_aload_n hx hb dX12_isRead_26 rfl (lv_at hl 0 rfl) ?_
        refine va_get (ci := 11) (v := .ref (r 13)) (C := RX12) (T := TX12) (N := 24) hx hb hts hinX12 hown hK hP 0 rfl rfl 13 (by decide) hf25 (fun _ h9 => h9) rfl dX12_isRead_27 ?_
        refine lv_iconst (v := nI 4) hx hb dX12_isRead_30 (by decide) ?_
        refine lv_iconst (v := nI 1) hx hb dX12_isRead_31 (by decide) ?_
        refine stN (f := (fun _ => nI 0)) (ws' := mW cy h r (upd (upd v 4 (nI L)) 6 (nI 0)) (va_up (va_up A 5 f5) 13 (upd (fun _ => nI 0) 4 (nI 1)))) hx hb hK hP hD hS 6 rfl (j := 4) (by omega) (by decide) dX12_isRead_32 rfl (fun H locs hP hD hS => ?_)
        refine lv_aload_n hx hb dX12_isRead_33 rfl (lv_at hl 0 rfl) ?_
        refine call_i (wr := []) (ws' := (fun u1 : Int32 × Int32 × Int32 × Int32 × Int32 × (Nat → Int32) => mW cy h r (upd (upd (upd (upd (upd (upd v 4 (nI L)) 6 u1.1) 7 u1.2.1) 8 u1.2.2.1) 9 u1.2.2.2.1) 10 u1.2.2.2.2.1) (va_up (va_up A 5 f5) 13 u1.2.2.2.2.2))) (va_runV (As := []) (rest := []) CF (k_X12_isLaw l D cy _ h r v A f5 (upd (fun _ => nI 0) 4 (nI 1)) L (by first | assumption | omega | decide)) (cwV 0 hts gX12_isRead_X12_isLaw rfl rfl rfl (by decide +kernel) ⟨Nat.le_of_ble_eq_true rfl, Nat.le_of_ble_eq_true rfl⟩) (pre_V hKN hP hD [0, 1, 2, 3, 4, 5, 6, 7, 8, 9, 10, 11, 12, 13, 14] rfl (by decide) 0 11 rfl rfl) rfl rfl hl.1 rfl (lv_room (Nat.le_of_ble_eq_true rfl)) dX12_isRead_34 ⟨Nat.le_of_ble_eq_true rfl, Nat.le_of_ble_eq_true rfl⟩) hS hA hP hD [0, 1, 2, 3, 4, 5, 6, 7, 8, 9, 10, 11, 12, 13, 14] [] [0, 1, 2, 3, 4, 5, 6, 7, 8, 9, 10, 11, 12, 13, 14] rfl rfl (by decide) (by decide) (fun _ => rfl) (by decide) (fun r2 u1 H locs hw3 hP hD hS => ?_)
        obtain ⟨hw3a, hw3⟩ := hw3
        replace hw3a := hw3a.symm; subst hw3a
        obtain ⟨w6_1, w7_1, w8_1, w9_1, w10_1, f13_1⟩ := u1
        try dsimp only at hw3
        have hP : va_P D vwCl (mW cy h r (upd (upd (upd (upd (upd (upd v 4 (nI L)) 6 w6_1) 7 w7_1) 8 w8_1) 9 w9_1) 10 w10_1) (va_up (va_up A 5 f5) 13 f13_1)) H := hP
        have hD : va_D A_ (mW cy h r (upd (upd (upd (upd (upd (upd v 4 (nI L)) 6 w6_1) 7 w7_1) 8 w8_1) 9 w9_1) 10 w10_1) (va_up (va_up A 5 f5) 13 f13_1)) := hD
        refine ifneB (tgt := 42) hx hb dX12_isRead_37 (by decide) (fun c37 => ?_) (fun c37 => ?_)
        · replace c37 : (lawX f5 L = 0) := c37
          obtain ⟨e6, e13_pa⟩ := hw3.1 c37
          obtain ⟨pa, e_pa⟩ : ∃ z, z = lp f5 L 0 5 := ⟨_, rfl⟩
          rw [← e_pa] at e6; subst e6
          have le_pa : pa ≤ L := (by rw [e_pa]; exact lp_le (Nat.zero_le L) 5)
          refine lv_aload_n hx hb dX12_isRead_42 rfl (lv_at hl 0 rfl) ?_
          refine call_v (wr := []) (ws' := (fun u4 : Int32 × Int32 × Int32 => mW cy h r (upd (upd (upd (upd (upd (upd v 10 w10_1) 4 (nI L)) 7 (nI pa)) 6 u4.1) 8 u4.2.1) 9 u4.2.2) (va_up (va_up A 13 f13_1) 5 f5))) (va_runV (As := []) (rest := []) CF (k_X12_nextToken l D cy _ h r (upd (upd (upd (upd v 7 w7_1) 8 w8_1) 9 w9_1) 10 w10_1) (va_up A 13 f13_1) f5 L pa (by first | assumption | omega | decide) le_pa) (cwV 0 hts gX12_isRead_X12_nextToken rfl rfl rfl (by decide +kernel) ⟨Nat.le_of_ble_eq_true rfl, Nat.le_of_ble_eq_true rfl⟩) (pre_V hKN hP hD [0, 1, 2, 3, 4, 5, 6, 7, 8, 9, 10, 11, 12, 13, 14] rfl (by decide) 0 11 rfl rfl) rfl rfl hl.1 rfl (lv_room (Nat.le_of_ble_eq_true rfl)) dX12_isRead_43 ⟨Nat.le_of_ble_eq_true rfl, Nat.le_of_ble_eq_true rfl⟩) hS hA hP hD [0, 1, 2, 3, 4, 5, 6, 7, 8, 9, 10, 11, 12, 13, 14] [] [0, 1, 2, 3, 4, 5, 6, 7, 8, 9, 10, 11, 12, 13, 14] rfl rfl (by decide) (by decide) (fun _ => rfl) (by decide) (fun u4 H locs hw6 hP hD hS => ?_)
          replace hw6 := hw6.symm; subst hw6
          have hP : va_P D vwCl (mW cy h r (upd (upd (upd (upd (upd (upd v 10 w10_1) 4 (nI L)) 7 (nI pa)) 6 (nI (tokP f5 L pa))) 8 (tokK f5 L pa)) 9 (tokN f5 L pa)) (va_up (va_up A 13 f13_1) 5 f5)) H := hP
          have hD : va_D A_ (mW cy h r (upd (upd (upd (upd (upd (upd v 10 w10_1) 4 (nI L)) 7 (nI pa)) 6 (nI (tokP f5 L pa))) 8 (tokK f5 L pa)) 9 (tokN f5 L pa)) (va_up (va_up A 13 f13_1) 5 f5)) := hD
          refine lv_aload_n hx hb dX12_isRead_46 rfl (lv_at hl 0 rfl) ?_
          refine va_get (ci := 11) (v := .int (tokK f5 L pa)) (C := RX12) (T := TX12) (N := 24) hx hb hts hinX12 hown hK hP 0 rfl rfl 8 (by decide) hf90 (fun _ h9 => h9) rfl dX12_isRead_47 ?_
          refine lv_bipush (v := (-2)) hx hb dX12_isRead_50 (by decide) ?_
          refine lv_icmp_ne (tgt := 61) hx hb dX12_isRead_52 (by decide) (fun c52 => ?_) (fun c52 => ?_)
          · have lp61 : ∀ f_ : Nat, ∀ (p : Nat) (x9 : Int32) (x10 : Int32) (rd : Nat → Int32) (n : Nat), (10 - n) < f_ → (p ≤ L) → (rd 3 = nI n) → (n ≤ 8) → (redF f5 L = rdR f5 L (10 - n) p rd n) → ∀ (H : Heap) (locs : List Loc), va_P D vwCl (mW cy h r (upd (upd (upd (upd (upd (upd v 4 (nI L)) 7 (nI p)) 6 (nI (tokP f5 L p))) 8 (tokK f5 L p)) 9 x9) 10 x10) (va_up (va_up A 5 f5) 13 rd)) H → va_D A_ (mW cy h r (upd (upd (upd (upd (upd (upd v 4 (nI L)) 7 (nI p)) 6 (nI (tokP f5 L p))) 8 (tokK f5 L p)) 9 x9) 10 x10) (va_up (va_up A 5 f5) 13 rd)) → va_S A_ s_.heap H locs → ∀ ls : Array Slot, lv_has ls 2 [(0, .ref h)] → W p_ l e_ (rmD 4) s_ m_ args_ below_ meth_ c_ H locs 0 0 Q_ (F0 m_ 61 ls []) := by
              intro f_
              induction f_ with
              | zero => intro p x9 x10 rd n hm_; exact absurd hm_ (by omega)
              | succ f_ ih61 =>
                intro p x9 x10 rd n hm_ hp h3 hn eR H locs hP hD hS ls hl
                refine lv_aload_n hx hb dX12_isRead_61 rfl (lv_at hl 0 rfl) ?_
                refine va_get (ci := 11) (v := .int (tokK f5 L p)) (C := RX12) (T := TX12) (N := 24) hx hb hts hinX12 hown hK hP 0 rfl rfl 8 (by decide) hf90 (fun _ h9 => h9) rfl dX12_isRead_62 ?_
                refine lv_bipush (v := (-2)) hx hb dX12_isRead_65 (by decide) ?_
                refine lv_icmp_eq (tgt := 86) hx hb dX12_isRead_67 (by decide) (fun c67 => ?_) (fun c67 => ?_)
                · refine lv_iconst (v := nI 1) hx hb dX12_isRead_86 (by decide) ?_
                  exact ret _ ((nI (tokP f5 L p)), (nI p), (tokK f5 L p), x9, x10, rd) _ _ _ _ dX12_isRead_87 rfl (redT (by rw [eR, rdR_at _ _ _ _ hn, if_pos c67]) (by rw [eR, rdR_at _ _ _ _ hn, if_pos c67])) hP hD hS
                · refine lv_aload_n hx hb dX12_isRead_70 rfl (lv_at hl 0 rfl) ?_
                  refine call_i (wr := []) (ws' := (fun u7 : Int32 × Int32 × Int32 × Int32 × Int32 × (Nat → Int32) => mW cy h r (upd (upd (upd (upd (upd (upd v 4 (nI L)) 6 u7.1) 7 u7.2.1) 8 u7.2.2.1) 9 u7.2.2.2.1) 10 u7.2.2.2.2.1) (va_up (va_up A 5 f5) 13 u7.2.2.2.2.2))) (va_runV (As := []) (rest := []) CF (k_X12_isCard l D cy _ h r (upd (upd v 9 x9) 10 x10) A f5 L p rd n (by first | assumption | omega | decide) (by first | assumption | omega | decide) (by first | assumption | omega | decide) (by first | assumption | omega | decide)) (cwV 0 hts gX12_isRead_X12_isCard rfl rfl rfl (by decide +kernel) ⟨Nat.le_of_ble_eq_true rfl, Nat.le_of_ble_eq_true rfl⟩) (pre_V hKN hP hD [0, 1, 2, 3, 4, 5, 6, 7, 8, 9, 10, 11, 12, 13, 14] rfl (by decide) 0 11 rfl rfl) rfl rfl hl.1 rfl (lv_room (Nat.le_of_ble_eq_true rfl)) dX12_isRead_71 ⟨Nat.le_of_ble_eq_true rfl, Nat.le_of_ble_eq_true rfl⟩) hS hA hP hD [0, 1, 2, 3, 4, 5, 6, 7, 8, 9, 10, 11, 12, 13, 14] [] [0, 1, 2, 3, 4, 5, 6, 7, 8, 9, 10, 11, 12, 13, 14] rfl rfl (by decide) (by decide) (fun _ => rfl) (by decide) (fun r8 u7 H locs hw9 hP hD hS => ?_)
                  obtain ⟨hw9a, hw9⟩ := hw9
                  replace hw9a := hw9a.symm; subst hw9a
                  obtain ⟨w6_7, w7_7, w8_7, w9_7, w10_7, f13_7⟩ := u7
                  try dsimp only at hw9
                  have hP : va_P D vwCl (mW cy h r (upd (upd (upd (upd (upd (upd v 4 (nI L)) 6 w6_7) 7 w7_7) 8 w8_7) 9 w9_7) 10 w10_7) (va_up (va_up A 5 f5) 13 f13_7)) H := hP
                  have hD : va_D A_ (mW cy h r (upd (upd (upd (upd (upd (upd v 4 (nI L)) 6 w6_7) 7 w7_7) 8 w8_7) 9 w9_7) 10 w10_7) (va_up (va_up A 5 f5) 13 f13_7)) := hD
                  refine ifneB (tgt := 79) hx hb dX12_isRead_74 (by decide) (fun c74 => ?_) (fun c74 => ?_)
                  · replace c74 : (crdX f5 L p rd n = 0) := c74
                    obtain ⟨e6, e13_pb⟩ := hw9.1 c74
                    obtain ⟨pb, e_pb⟩ : ∃ z, z = lp f5 L p 5 := ⟨_, rfl⟩
                    rw [← e_pb] at e6; subst e6
                    have hn8 := crdX_n c74
                    have le_pb : pb ≤ L := (by rw [e_pb]; exact lp_le hp 5)
                    refine lv_aload_n hx hb dX12_isRead_79 rfl (lv_at hl 0 rfl) ?_
                    refine call_v (wr := []) (ws' := (fun u10 : Int32 × Int32 × Int32 => mW cy h r (upd (upd (upd (upd (upd (upd v 10 w10_7) 4 (nI L)) 7 (nI pb)) 6 u10.1) 8 u10.2.1) 9 u10.2.2) (va_up (va_up A 13 f13_7) 5 f5))) (va_runV (As := []) (rest := []) CF (k_X12_nextToken l D cy _ h r (upd (upd (upd (upd v 7 w7_7) 8 w8_7) 9 w9_7) 10 w10_7) (va_up A 13 f13_7) f5 L pb (by first | assumption | omega | decide) le_pb) (cwV 0 hts gX12_isRead_X12_nextToken rfl rfl rfl (by decide +kernel) ⟨Nat.le_of_ble_eq_true rfl, Nat.le_of_ble_eq_true rfl⟩) (pre_V hKN hP hD [0, 1, 2, 3, 4, 5, 6, 7, 8, 9, 10, 11, 12, 13, 14] rfl (by decide) 0 11 rfl rfl) rfl rfl hl.1 rfl (lv_room (Nat.le_of_ble_eq_true rfl)) dX12_isRead_80 ⟨Nat.le_of_ble_eq_true rfl, Nat.le_of_ble_eq_true rfl⟩) hS hA hP hD [0, 1, 2, 3, 4, 5, 6, 7, 8, 9, 10, 11, 12, 13, 14] [] [0, 1, 2, 3, 4, 5, 6, 7, 8, 9, 10, 11, 12, 13, 14] rfl rfl (by decide) (by decide) (fun _ => rfl) (by decide) (fun u10 H locs hw12 hP hD hS => ?_)
                    replace hw12 := hw12.symm; subst hw12
                    have hP : va_P D vwCl (mW cy h r (upd (upd (upd (upd (upd (upd v 10 w10_7) 4 (nI L)) 7 (nI pb)) 6 (nI (tokP f5 L pb))) 8 (tokK f5 L pb)) 9 (tokN f5 L pb)) (va_up (va_up A 13 f13_7) 5 f5)) H := hP
                    have hD : va_D A_ (mW cy h r (upd (upd (upd (upd (upd (upd v 10 w10_7) 4 (nI L)) 7 (nI pb)) 6 (nI (tokP f5 L pb))) 8 (tokK f5 L pb)) 9 (tokN f5 L pb)) (va_up (va_up A 13 f13_7) 5 f5)) := hD
                    refine lv_goto (tgt := 61) hx hb dX12_isRead_83 (by decide) ?_
                    exact ih61 pb (tokN f5 L pb) w10_7 f13_7 (n + 1) (by omega) le_pb (by rw [e13_pb]; exact crdA_3 h3) (by omega) (by rw [eR, rdR_at _ _ _ _ hn, if_neg c67, if_pos c74, e13_pb, e_pb]) _ _ hP hD hS ls (lv_sub hl [0] rfl)
                  · replace c74 : ¬ (crdX f5 L p rd n = 0) := c74
                    refine lv_iconst (v := nI 0) hx hb dX12_isRead_77 (by decide) ?_
                    exact ret _ (w6_7, w7_7, w8_7, w9_7, w10_7, f13_7) _ _ _ _ dX12_isRead_78 rfl (redN (by rw [eR, rdR_at _ _ _ _ hn, if_neg c67, if_neg c74]; exact c74) (by rw [eR, rdR_at _ _ _ _ hn, if_neg c67, if_neg c74]; exact hw9.2 c74)) hP hD hS
            exact lp61 (10 - 0 + 1) pa (tokN f5 L pa) w10_1 f13_1 0 (by omega) le_pa (by rw [e13_pa]; rfl) (by omega) (by rw [redF, if_neg (nn c37), ← e_pa, if_neg c52, e13_pa]; rfl) _ _ hP hD hS ls (lv_sub hl [0] rfl)
          · refine lv_aload_n hx hb dX12_isRead_55 rfl (lv_at hl 0 rfl) ?_
            refine lv_iconst (v := nI 1) hx hb dX12_isRead_56 (by decide) ?_
            refine call_i (wr := []) (ws' := (fun _ : Unit => mW cy h r (upd (upd (upd (upd (upd (upd v 4 (nI L)) 7 (nI pa)) 6 (nI (tokP f5 L pa))) 8 (tokK f5 L pa)) 9 (tokN f5 L pa)) 10 (nI 1)) (va_up (va_up A 13 f13_1) 5 f5))) (va_runV (As := [.int (nI 1)]) (rest := []) CF (k_X12_fails l D cy _ h r (upd (upd (upd (upd (upd (upd v 10 w10_1) 4 (nI L)) 7 (nI pa)) 6 (nI (tokP f5 L pa))) 8 (tokK f5 L pa)) 9 (tokN f5 L pa)) (va_up (va_up A 13 f13_1) 5 f5) 1 ) (cwV 1 hts gX12_isRead_X12_fails rfl rfl rfl (by decide +kernel) ⟨Nat.le_of_ble_eq_true rfl, Nat.le_of_ble_eq_true rfl⟩) (pre_V hKN hP hD [0, 1, 2, 3, 4, 5, 6, 7, 8, 9, 10, 11, 12, 13, 14] rfl (by decide) 0 11 rfl rfl) rfl rfl hl.1 rfl (lv_room (Nat.le_of_ble_eq_true rfl)) dX12_isRead_57 ⟨Nat.le_of_ble_eq_true rfl, Nat.le_of_ble_eq_true rfl⟩) hS hA hP hD [0, 1, 2, 3, 4, 5, 6, 7, 8, 9, 10, 11, 12, 13, 14] [] [0, 1, 2, 3, 4, 5, 6, 7, 8, 9, 10, 11, 12, 13, 14] rfl rfl (by decide) (by decide) (fun _ => rfl) (by decide) (fun r14 u13 H locs hw15 hP hD hS => ?_)
            replace hw15 := hw15.symm; subst hw15
            exact ret _ ((nI (tokP f5 L pa)), (nI pa), (tokK f5 L pa), (tokN f5 L pa), (nI 1), f13_1) _ _ _ _ dX12_isRead_60 rfl (redN (by rw [redF, if_neg (nn c37), ← e_pa, if_pos c52]; exact (by decide : ¬ 1 = 0)) (by rw [redF, if_neg (nn c37), ← e_pa, if_pos c52]; exact ⟨rfl, rfl⟩)) hP hD hS
        · replace c37 : ¬ (lawX f5 L = 0) := c37
          refine lv_iconst (v := nI 0) hx hb dX12_isRead_40 (by decide) ?_
          exact ret _ (w6_1, w7_1, w8_1, w9_1, w10_1, f13_1) _ _ _ _ dX12_isRead_41 rfl (redN (by rw [redF, if_pos c37]; exact c37) (by rw [redF, if_pos c37]; exact hw3.2 c37)) hP hD hS
      · refine lv_aload_n hx hb dX12_isRead_8 rfl (lv_at hl 0 rfl) ?_
        refine va_get (ci := 11) (v := .ref (r 13)) (C := RX12) (T := TX12) (N := 24) hx hb hts hinX12 hown hK hP 0 rfl rfl 13 (by decide) hf25 (fun _ h9 => h9) rfl dX12_isRead_9 ?_
        refine lv_iload_n hx hb dX12_isRead_12 rfl (lv_at hl 1 rfl) ?_
        refine lv_iconst (v := nI 0) hx hb dX12_isRead_13 (by decide) ?_
        refine stN (f := f2) (ws' := mW cy h r (upd v 4 (nI L)) (va_up (va_up A 5 f5) 13 (upd f2 k (nI 0)))) hx hb hK hP hD hS 6 rfl (j := k) (by omega) (by decide) dX12_isRead_14 rfl (fun H locs hP hD hS => ?_)
        refine lv_iinc (v := nI (k + 1)) (lv' := [(1, .int (nI (k + 1))), (0, .ref h)]) hx hb dX12_isRead_15 hl (k := 1) rfl (nI_1 _) (by decide) rfl (fun ls hl => ?_)
        refine lv_goto (tgt := 2) hx hb dX12_isRead_18 (by decide) ?_
        exact ih2 (k + 1) (upd f2 k (nI 0)) (by omega) (by omega) (zer_s hz) _ _ hP hD hS ls (lv_sub hl [1, 0] rfl)
  exact lp2 (37 - 0 + 1) 0 (A 13) (by omega) (by omega) (fun _ q => absurd q (by omega)) _ _ hP hD hS ls (lv_sub hl [1, 0] rfl)
set_option maxHeartbeats 4000000 in
set_option maxRecDepth 100000 in
theorem k_X12_catalogue (l : Launch) (D : va_G) (cy : Nat → ClassId) (sz : Nat) (h : Nat) (r : Nat → Nat) (v : Nat → Int32) (A : Nat → Nat → Int32) (f5 : Nat → Int32) (L : Nat) (hL : L ≤ 60) : Met l yX12_catalogue wsX12_catalogue (rmD 5) (pPre D (TY cy) (mW cy h r (upd v 4 (nI L)) (va_up A 5 f5)) sz [.ref h]) (pI D (TY cy) (mW cy h r (upd v 4 (nI L)) (va_up A 5 f5)) sz (fun u : (Nat → Int32) × (Nat → Nat → Int32) => mW cy h r u.1 u.2) (fun (r_ : Int32) (u : (Nat → Int32) × (Nat → Nat → Int32)) => r_ = mCatR f5 L ∧ (∀ j, j ≠ 6 → j ≠ 7 → j ≠ 8 → j ≠ 9 → j ≠ 10 → u.1 j = mCatV v f5 L j) ∧ (∀ j, j ≠ 13 → u.2 j = mCatA (va_up A 5 f5) f5 L j))) 0 0 (va_A (mW cy h r (upd v 4 (nI L)) (va_up A 5 f5)) sz) := by
  refine ent_i (cc := cX12_catalogue) (maxL := 2) (by decide +kernel) rfl (Nat.le_of_ble_eq_true rfl) ?_
  intro p_ e_ s_ m_ args_ below_ meth_ c_ A_ Q_ ls B0 ret
  obtain ⟨CF, hA, hKN, hP, hD, hl⟩ := B0
  have hK := hKN.1
  obtain ⟨hx, hb, hml, hown, hts⟩ := id CF
  have hS : va_S A_ s_.heap s_.heap [] := va_S.rf
  have hl : lv_has ls 2 [(0, .ref h)] := hl
  have hf77 := hts (.fieldLink RX12 77 "DrawerCardsModel" "letters" "I") (by decide +kernel)
  have hinX12 := show ∀ w ∈ u_ws RX12 TX12 24, w ∈ wsX12_catalogue from by decide +kernel
  have hf25 := hts (.fieldLink RX12 25 "DrawerCardsModel" "read" "[I") (by decide +kernel)
  have hf22 := hts (.fieldLink RX12 22 "DrawerCardsModel" "now" "[I") (by decide +kernel)
  have hf134 := hts (.fieldLink RX12 134 "DrawerCardsModel" "acts" "I") (by decide +kernel)
  have hf93 := hts (.fieldLink RX12 93 "DrawerCardsModel" "faultIs" "I") (by decide +kernel)
  have hf126 := hts (.fieldLink RX12 126 "DrawerCardsModel" "faultNow" "I") (by decide +kernel)
  have hc129 := hts (.constant RX12 129 (-1000100)) (by decide +kernel)
  have hf84 := hts (.fieldLink RX12 84 "DrawerCardsModel" "tokenAt" "I") (by decide +kernel)
  refine lv_aload_n hx hb dX12_catalogue_0 rfl (lv_at hl 0 rfl) ?_
  refine call_i (wr := []) (ws' := (fun u1 : Int32 × Int32 × Int32 × Int32 × Int32 × (Nat → Int32) => mW cy h r (upd (upd (upd (upd (upd (upd v 4 (nI L)) 6 u1.1) 7 u1.2.1) 8 u1.2.2.1) 9 u1.2.2.2.1) 10 u1.2.2.2.2.1) (va_up (va_up A 5 f5) 13 u1.2.2.2.2.2))) (va_runV (As := []) (rest := []) CF (k_X12_isRead l D cy _ h r v A f5 L (by first | assumption | omega | decide)) (cwV 0 hts gX12_catalogue_X12_isRead rfl rfl rfl (by decide +kernel) ⟨Nat.le_of_ble_eq_true rfl, Nat.le_of_ble_eq_true rfl⟩) (pre_V hKN hP hD [0, 1, 2, 3, 4, 5, 6, 7, 8, 9, 10, 11, 12, 13, 14] rfl (by decide) 0 11 rfl rfl) rfl rfl hl.1 rfl (lv_room (Nat.le_of_ble_eq_true rfl)) dX12_catalogue_1 ⟨Nat.le_of_ble_eq_true rfl, Nat.le_of_ble_eq_true rfl⟩) hS hA hP hD [0, 1, 2, 3, 4, 5, 6, 7, 8, 9, 10, 11, 12, 13, 14] [] [0, 1, 2, 3, 4, 5, 6, 7, 8, 9, 10, 11, 12, 13, 14] rfl rfl (by decide) (by decide) (fun _ => rfl) (by decide) (fun r2 u1 H locs hw3 hP hD hS => ?_)
  obtain ⟨hw3a, hw3⟩ := hw3
  replace hw3a := hw3a.symm; subst hw3a
  obtain ⟨w6_1, w7_1, w8_1, w9_1, w10_1, f13_1⟩ := u1
  try dsimp only at hw3
  have hP : va_P D vwCl (mW cy h r (upd (upd (upd (upd (upd (upd v 4 (nI L)) 6 w6_1) 7 w7_1) 8 w8_1) 9 w9_1) 10 w10_1) (va_up (va_up A 5 f5) 13 f13_1)) H := hP
  have hD : va_D A_ (mW cy h r (upd (upd (upd (upd (upd (upd v 4 (nI L)) 6 w6_1) 7 w7_1) 8 w8_1) 9 w9_1) 10 w10_1) (va_up (va_up A 5 f5) 13 f13_1)) := hD
  refine lv_istore_n (lv' := [(1, .int (bI ((redF f5 L).1 = 0))), (0, .ref h)]) hx hb dX12_catalogue_4 rfl hl (by decide) rfl (fun ls hl => ?_)
  refine lv_aload_n hx hb dX12_catalogue_5 rfl (lv_at hl 1 rfl) ?_
  refine lv_iconst (v := nI 0) hx hb dX12_catalogue_6 (by decide) ?_
  refine va_put (ci := 11) (v := .int (nI 0)) (ty := .int) (C := RX12) (T := TX12) (N := 24) hx hb hts hinX12 tyX12 tyX12_ok nmX12 hown hK hP hD hS 0 rfl rfl 4 (by decide) hf77 (fun _ h9 => h9) rfl (by decide +kernel) rfl rfl (Nat.le_of_ble_eq_true rfl) dX12_catalogue_7 (fun H locs hP hD hS => ?_)
  have hP : va_P D vwCl (mW cy h r (upd (upd (upd (upd (upd (upd v 6 w6_1) 7 w7_1) 8 w8_1) 9 w9_1) 10 w10_1) 4 (nI 0)) (va_up (va_up A 5 f5) 13 f13_1)) H := hP
  have hD : va_D A_ (mW cy h r (upd (upd (upd (upd (upd (upd v 6 w6_1) 7 w7_1) 8 w8_1) 9 w9_1) 10 w10_1) 4 (nI 0)) (va_up (va_up A 5 f5) 13 f13_1)) := hD
  refine lv_iload_n hx hb dX12_catalogue_10 rfl (lv_at hl 0 rfl) ?_
  refine ifneB (tgt := 30) hx hb dX12_catalogue_11 (by decide) (fun c11 => ?_) (fun c11 => ?_)
  · replace c11 : ((redF f5 L).1 = 0) := c11
    have e13 := hw3.1 c11
    subst e13
    refine lv_aload_n hx hb dX12_catalogue_30 rfl (lv_at hl 1 rfl) ?_
    refine va_get (ci := 11) (v := .ref (r 13)) (C := RX12) (T := TX12) (N := 24) hx hb hts hinX12 hown hK hP 0 rfl rfl 13 (by decide) hf25 (fun _ h9 => h9) rfl dX12_catalogue_31 ?_
    refine lv_iconst (v := nI 0) hx hb dX12_catalogue_34 (by decide) ?_
    refine lv_aload_n hx hb dX12_catalogue_35 rfl (lv_at hl 1 rfl) ?_
    refine va_get (ci := 11) (v := .ref (r 12)) (C := RX12) (T := TX12) (N := 24) hx hb hts hinX12 hown hK hP 0 rfl rfl 12 (by decide) hf22 (fun _ h9 => h9) rfl dX12_catalogue_36 ?_
    refine lv_iconst (v := nI 0) hx hb dX12_catalogue_39 (by decide) ?_
    refine call_v (wr := [(h, .inr (11, mO r (upd (upd (upd (upd (upd (upd v 6 w6_1) 7 w7_1) 8 w8_1) 9 w9_1) 10 w10_1) 4 (nI 0)))), ((r 0), wInt (cy 0) 8 (A 0)), ((r 1), wInt (cy 0) 8 (A 1)), ((r 2), wInt (cy 0) 320 (A 2)), ((r 5), wInt (cy 0) 60 f5), ((r 14), wInt (cy 0) 37 (A 14)), ((r 15), wInt (cy 0) 37 (A 15)), ((r 16), wInt (cy 0) 74 (A 16)), ((r 17), wInt (cy 1) 2 (A 17)), ((r 18), wInt (cy 0) 888 (A 18)), ((r 20), wInt (cy 0) 16 (A 20)), ((r 22), wInt (cy 0) 16 (A 22)), ((r 23), wInt (cy 0) 24 (A 23))]) (ws' := (fun _ : Unit => mW cy h r (upd (upd (upd (upd (upd (upd v 6 w6_1) 7 w7_1) 8 w8_1) 9 w9_1) 10 w10_1) 4 (nI 0)) (va_up (va_up (va_up A 5 f5) 13 ((redF f5 L).2.2.1)) 12 ((redF f5 L).2.2.1)))) (va_runS (As := [.ref (r 13), .int (nI 0), .ref (r 12), .int (nI 0)]) (rest := []) CF (k_X12_lay00 l D cy _ (r 13) (r 12) ((redF f5 L).2.2.1) (A 12) ) (va_cwS 4 hts gX12_catalogue_X12_lay rfl rfl rfl (by decide +kernel) ⟨Nat.le_of_ble_eq_true rfl, Nat.le_of_ble_eq_true rfl⟩) (pre_S hKN hP hD [6, 5] rfl (by decide)) rfl rfl hl.1 rfl (lv_room (Nat.le_of_ble_eq_true rfl)) dX12_catalogue_40 ⟨Nat.le_of_ble_eq_true rfl, Nat.le_of_ble_eq_true rfl⟩) hS hA hP hD [6, 5] [0, 1, 2, 3, 4, 7, 8, 9, 10, 11, 12, 13, 14] [0, 1, 2, 3, 4, 14, 13, 5, 6, 7, 8, 9, 10, 11, 12] rfl rfl (by decide) (by decide) (fun _ => rfl) (by decide) (fun u4 H locs hw6 hP hD hS => ?_)
    refine lv_aload_n hx hb dX12_catalogue_43 rfl (lv_at hl 1 rfl) ?_
    refine lv_iconst (v := nI 0) hx hb dX12_catalogue_44 (by decide) ?_
    refine va_put (ci := 11) (v := .int (nI 0)) (ty := .int) (C := RX12) (T := TX12) (N := 24) hx hb hts hinX12 tyX12 tyX12_ok nmX12 hown hK hP hD hS 0 rfl rfl 19 (by decide) hf134 (fun _ h9 => h9) rfl (by decide +kernel) rfl rfl (Nat.le_of_ble_eq_true rfl) dX12_catalogue_45 (fun H locs hP hD hS => ?_)
    have hP : va_P D vwCl (mW cy h r (upd (upd (upd (upd (upd (upd (upd v 6 w6_1) 7 w7_1) 8 w8_1) 9 w9_1) 10 w10_1) 4 (nI 0)) 19 (nI 0)) (va_up (va_up (va_up A 5 f5) 13 ((redF f5 L).2.2.1)) 12 ((redF f5 L).2.2.1))) H := hP
    have hD : va_D A_ (mW cy h r (upd (upd (upd (upd (upd (upd (upd v 6 w6_1) 7 w7_1) 8 w8_1) 9 w9_1) 10 w10_1) 4 (nI 0)) 19 (nI 0)) (va_up (va_up (va_up A 5 f5) 13 ((redF f5 L).2.2.1)) 12 ((redF f5 L).2.2.1))) := hD
    refine lv_aload_n hx hb dX12_catalogue_48 rfl (lv_at hl 1 rfl) ?_
    refine va_get (ci := 11) (v := .ref (r 12)) (C := RX12) (T := TX12) (N := 24) hx hb hts hinX12 hown hK hP 0 rfl rfl 12 (by decide) hf22 (fun _ h9 => h9) rfl dX12_catalogue_49 ?_
    refine lv_iconst (v := nI 3) hx hb dX12_catalogue_52 (by decide) ?_
    refine ldN (f := (redF f5 L).2.2.1) hx hb hK hP 5 rfl (j := 3) (by omega) (by decide) dX12_catalogue_53 ?_
    exact ret _ ((upd (upd (upd (upd (upd (upd (upd v 6 w6_1) 7 w7_1) 8 w8_1) 9 w9_1) 10 w10_1) 4 (nI 0)) 19 (nI 0)), (va_up (va_up (va_up A 5 f5) 13 ((redF f5 L).2.2.1)) 12 ((redF f5 L).2.2.1))) _ _ _ _ dX12_catalogue_54 ⟨(by rw [mCatR, if_pos c11]), (fun j h6 h7 h8 h9 h10 => by simp [mCatV, c11, upd, h6, h7, h8, h9, h10]; try (repeat split) <;> simp_all), (fun j h13 => by simp [mCatA, c11, va_up, h13])⟩ hP hD hS
  · replace c11 : ¬ ((redF f5 L).1 = 0) := c11
    refine lv_aload_n hx hb dX12_catalogue_14 rfl (lv_at hl 1 rfl) ?_
    refine lv_aload_n hx hb dX12_catalogue_15 rfl (lv_at hl 1 rfl) ?_
    refine va_get (ci := 11) (v := .int w10_1) (C := RX12) (T := TX12) (N := 24) hx hb hts hinX12 hown hK hP 0 rfl rfl 10 (by decide) hf93 (fun _ h9 => h9) rfl dX12_catalogue_16 ?_
    refine va_put (ci := 11) (v := .int w10_1) (ty := .int) (C := RX12) (T := TX12) (N := 24) hx hb hts hinX12 tyX12 tyX12_ok nmX12 hown hK hP hD hS 0 rfl rfl 11 (by decide) hf126 (fun _ h9 => h9) rfl (by decide +kernel) rfl rfl (Nat.le_of_ble_eq_true rfl) dX12_catalogue_19 (fun H locs hP hD hS => ?_)
    have hP : va_P D vwCl (mW cy h r (upd (upd (upd (upd (upd (upd (upd v 6 w6_1) 7 w7_1) 8 w8_1) 9 w9_1) 10 w10_1) 4 (nI 0)) 11 w10_1) (va_up (va_up A 5 f5) 13 f13_1)) H := hP
    have hD : va_D A_ (mW cy h r (upd (upd (upd (upd (upd (upd (upd v 6 w6_1) 7 w7_1) 8 w8_1) 9 w9_1) 10 w10_1) 4 (nI 0)) 11 w10_1) (va_up (va_up A 5 f5) 13 f13_1)) := hD
    refine lv_ldc hx hb hown hc129 dX12_catalogue_22 ?_
    refine lv_aload_n hx hb dX12_catalogue_24 rfl (lv_at hl 1 rfl) ?_
    refine va_get (ci := 11) (v := .int w7_1) (C := RX12) (T := TX12) (N := 24) hx hb hts hinX12 hown hK hP 0 rfl rfl 7 (by decide) hf84 (fun _ h9 => h9) rfl dX12_catalogue_25 ?_
    refine lv_isub hx hb dX12_catalogue_28 ?_
    exact ret _ ((upd (upd (upd (upd (upd (upd (upd v 6 w6_1) 7 w7_1) 8 w8_1) 9 w9_1) 10 w10_1) 4 (nI 0)) 11 w10_1), (va_up (va_up A 5 f5) 13 f13_1)) _ _ _ _ dX12_catalogue_29 ⟨(by rw [mCatR, if_neg c11, (hw3.2 c11).1]), (fun j h6 h7 h8 h9 h10 => by simp [mCatV, c11, upd, h6, h7, h8, h9, h10, (hw3.2 c11).2]; try (repeat split) <;> simp_all), (fun j h13 => by simp [mCatA, c11, va_up, h13])⟩ hP hD hS
