set_option maxHeartbeats 4000000 in
set_option maxRecDepth 100000 in
theorem k_X12_fits (l : Launch) (D : va_G) (cy : Nat → ClassId) (sz : Nat) (h : Nat) (r : Nat → Nat) (v : Nat → Int32) (A : Nat → Nat → Int32) (n : Nat) (dr : Nat) (x0 : Int32) (y0 : Int32) (i0 : Int32) (m0 : Int32) (w0 : Int32) (hC : Cat (A 12) n) (hd : A 12 1 = nI dr) (hd6 : dr ≤ 6) (hsz : ∀ k, k < 8 → ∃ z, z ≤ 40 ∧ A 1 k = nI z) (h1 : 0 < n → 0 < dr) : Met l yX12_fits wsX12_fits (rmD 7) (pPre D (TY cy) (mW cy h r v A) sz [.ref h, .int x0, .int y0, .int i0, .int m0, .int w0]) (pI D (TY cy) (mW cy h r v A) sz (fun u : (Nat → Int32) × (Nat → Nat → Int32) => mW cy h r u.1 u.2) (fun (r_ : Int32) (u : (Nat → Int32) × (Nat → Nat → Int32)) => r_ = (mFit v A n dr x0 y0 i0 m0 w0).1 ∧ u.1 = (mFit v A n dr x0 y0 i0 m0 w0).2 ∧ scr u.2 A)) 0 0 (va_A (mW cy h r v A) sz) := by
  refine ent_i (cc := cX12_fits) (maxL := 12) (by decide +kernel) rfl (Nat.le_of_ble_eq_true rfl) ?_
  intro p_ e_ s_ m_ args_ below_ meth_ c_ A_ Q_ ls B0 ret
  obtain ⟨CF, hA, hKN, hP, hD, hl⟩ := B0
  have hK := hKN.1
  obtain ⟨hx, hb, hml, hown, hts⟩ := id CF
  have hS : va_S A_ s_.heap s_.heap [] := va_S.rf
  have hl : lv_has ls 12 [(0, .ref h), (1, .int x0), (2, .int y0), (3, .int i0), (4, .int m0), (5, .int w0)] := hl
  have hc66 := hts (.constant RX12 66 (-1000001)) (by decide +kernel)
  have hf28 := hts (.fieldLink RX12 28 "DrawerCardsModel" "tried" "[I") (by decide +kernel)
  have hinX12 := show ∀ w ∈ u_ws RX12 TX12 24, w ∈ wsX12_fits from by decide +kernel
  have hf22 := hts (.fieldLink RX12 22 "DrawerCardsModel" "now" "[I") (by decide +kernel)
  have hn := hC.2.1
  refine lv_aload_n hx hb dX12_fits_0 rfl (lv_at hl 0 rfl) ?_
  refine lv_iload_n hx hb dX12_fits_1 rfl (lv_at hl 1 rfl) ?_
  refine call_i (wr := []) (ws' := (fun _ : Unit => mW cy h r v A)) (va_runV (As := [.int x0]) (rest := []) CF (k_X12_isOne l D cy _ h r v A x0 ) (cwV 1 hts gX12_fits_X12_isOne rfl rfl rfl (by decide +kernel) ⟨Nat.le_of_ble_eq_true rfl, Nat.le_of_ble_eq_true rfl⟩) (pre_V hKN hP hD [0, 1, 2, 3, 4, 5, 6, 7, 8, 9, 10, 11, 12, 13, 14] rfl (by decide) 0 11 rfl rfl) rfl rfl hl.1 rfl (lv_room (Nat.le_of_ble_eq_true rfl)) dX12_fits_2 ⟨Nat.le_of_ble_eq_true rfl, Nat.le_of_ble_eq_true rfl⟩) hS hA hP hD [0, 1, 2, 3, 4, 5, 6, 7, 8, 9, 10, 11, 12, 13, 14] [] [0, 1, 2, 3, 4, 5, 6, 7, 8, 9, 10, 11, 12, 13, 14] rfl rfl (by decide) (by decide) (fun _ => rfl) (by decide) (fun r2 u1 H locs hw3 hP hD hS => ?_)
  replace hw3 := hw3.symm; subst hw3
  refine ifeqB (tgt := 36) hx hb dX12_fits_5 (by decide) (fun c5 => ?_) (fun c5 => ?_)
  · replace c5 : ¬ (nI 0 ≤ x0 ∧ x0 ≤ (A 12) 3 - nI 1) := c5
    refine lv_ldc hx hb hown hc66 dX12_fits_36 ?_
    exact ret _ (v, A) _ _ _ _ dX12_fits_38 ⟨(by simp [-not_and, -Int32.not_le, -Int32.not_lt, noOne, noDr, mFit, c5]), (by simp [-not_and, -Int32.not_le, -Int32.not_lt, noOne, noDr, mFit, c5]), (fun j h1 h2 h3 h4 => by simp [va_up, h1, h2, h3, h4])⟩ hP hD hS
  · replace c5 : (nI 0 ≤ x0 ∧ x0 ≤ (A 12) 3 - nI 1) := c5
    obtain ⟨k, h_k, rfl⟩ := rng' (m := n) (by omega) (by rw [← hC.1]; exact c5)
    have e_k : (nI k).toNatClampNeg = k := nI_clamp (by omega)
    refine lv_iload_n hx hb dX12_fits_8 rfl (lv_at hl 2 rfl) ?_
    refine call_i (wr := [(h, .inr (11, mO r v)), ((r 0), wInt (cy 0) 8 (A 0)), ((r 1), wInt (cy 0) 8 (A 1)), ((r 2), wInt (cy 0) 320 (A 2)), ((r 5), wInt (cy 0) 60 (A 5)), ((r 12), wInt (cy 0) 37 (A 12)), ((r 13), wInt (cy 0) 37 (A 13)), ((r 14), wInt (cy 0) 37 (A 14)), ((r 15), wInt (cy 0) 37 (A 15)), ((r 16), wInt (cy 0) 74 (A 16)), ((r 17), wInt (cy 1) 2 (A 17)), ((r 18), wInt (cy 0) 888 (A 18)), ((r 20), wInt (cy 0) 16 (A 20)), ((r 22), wInt (cy 0) 16 (A 22)), ((r 23), wInt (cy 0) 24 (A 23))]) (ws' := (fun _ : Unit => mW cy h r v A)) (va_runS (As := [.int y0]) (rest := []) CF (k_X12_isRow l D cy _ y0 ) (va_cwS 1 hts gX12_fits_X12_isRow rfl rfl rfl (by decide +kernel) ⟨Nat.le_of_ble_eq_true rfl, Nat.le_of_ble_eq_true rfl⟩) (pre_S hKN hP hD [] rfl (by decide)) rfl rfl hl.1 rfl (lv_room (Nat.le_of_ble_eq_true rfl)) dX12_fits_9 ⟨Nat.le_of_ble_eq_true rfl, Nat.le_of_ble_eq_true rfl⟩) hS hA hP hD [] [0, 1, 2, 3, 4, 5, 6, 7, 8, 9, 10, 11, 12, 13, 14] [0, 1, 2, 3, 4, 5, 6, 7, 8, 9, 10, 11, 12, 13, 14] rfl rfl (by decide) (by decide) (fun _ => rfl) (by decide) (fun r5 u4 H locs hw6 hP hD hS => ?_)
    replace hw6 := hw6.symm; subst hw6
    refine ifeqB (tgt := 36) hx hb dX12_fits_12 (by decide) (fun c12 => ?_) (fun c12 => ?_)
    · replace c12 : ¬ (nI 0 ≤ y0 ∧ y0 ≤ nI 7) := c12
      refine lv_ldc hx hb hown hc66 dX12_fits_36 ?_
      exact ret _ (v, A) _ _ _ _ dX12_fits_38 ⟨(by simp [-not_and, -Int32.not_le, -Int32.not_lt, noOne, noDr, mFit, c5, e_k, c12]), (by simp [-not_and, -Int32.not_le, -Int32.not_lt, noOne, noDr, mFit, c5, e_k, c12]), (fun j h1 h2 h3 h4 => by simp [va_up, h1, h2, h3, h4])⟩ hP hD hS
    · replace c12 : (nI 0 ≤ y0 ∧ y0 ≤ nI 7) := c12
      obtain ⟨kr, h_kr, rfl⟩ := rng (m := 7) (by decide) c12
      have e_kr : (nI kr).toNatClampNeg = kr := nI_clamp (by omega)
      refine lv_iload hx hb dX12_fits_15 (lv_at hl 4 rfl) ?_
      refine lv_iconst (v := nI 1) hx hb dX12_fits_17 (by decide) ?_
      refine lv_bipush (v := nI 12) hx hb dX12_fits_18 (by decide) ?_
      refine call_i (wr := [(h, .inr (11, mO r v)), ((r 0), wInt (cy 0) 8 (A 0)), ((r 1), wInt (cy 0) 8 (A 1)), ((r 2), wInt (cy 0) 320 (A 2)), ((r 5), wInt (cy 0) 60 (A 5)), ((r 12), wInt (cy 0) 37 (A 12)), ((r 13), wInt (cy 0) 37 (A 13)), ((r 14), wInt (cy 0) 37 (A 14)), ((r 15), wInt (cy 0) 37 (A 15)), ((r 16), wInt (cy 0) 74 (A 16)), ((r 17), wInt (cy 1) 2 (A 17)), ((r 18), wInt (cy 0) 888 (A 18)), ((r 20), wInt (cy 0) 16 (A 20)), ((r 22), wInt (cy 0) 16 (A 22)), ((r 23), wInt (cy 0) 24 (A 23))]) (ws' := (fun _ : Unit => mW cy h r v A)) (va_runS (As := [.int m0, .int (nI 1), .int (nI 12)]) (rest := []) CF (k_X12_in l D cy _ m0 (nI 1) (nI 12) ) (va_cwS 3 hts gX12_fits_X12_in rfl rfl rfl (by decide +kernel) ⟨Nat.le_of_ble_eq_true rfl, Nat.le_of_ble_eq_true rfl⟩) (pre_S hKN hP hD [] rfl (by decide)) rfl rfl hl.1 rfl (lv_room (Nat.le_of_ble_eq_true rfl)) dX12_fits_20 ⟨Nat.le_of_ble_eq_true rfl, Nat.le_of_ble_eq_true rfl⟩) hS hA hP hD [] [0, 1, 2, 3, 4, 5, 6, 7, 8, 9, 10, 11, 12, 13, 14] [0, 1, 2, 3, 4, 5, 6, 7, 8, 9, 10, 11, 12, 13, 14] rfl rfl (by decide) (by decide) (fun _ => rfl) (by decide) (fun r8 u7 H locs hw9 hP hD hS => ?_)
      replace hw9 := hw9.symm; subst hw9
      refine ifeqB (tgt := 36) hx hb dX12_fits_23 (by decide) (fun c23 => ?_) (fun c23 => ?_)
      · replace c23 : ¬ ((nI 1) ≤ m0 ∧ m0 ≤ (nI 12)) := c23
        refine lv_ldc hx hb hown hc66 dX12_fits_36 ?_
        exact ret _ (v, A) _ _ _ _ dX12_fits_38 ⟨(by simp [-not_and, -Int32.not_le, -Int32.not_lt, noOne, noDr, mFit, c5, e_k, c12, e_kr, c23]), (by simp [-not_and, -Int32.not_le, -Int32.not_lt, noOne, noDr, mFit, c5, e_k, c12, e_kr, c23]), (fun j h1 h2 h3 h4 => by simp [va_up, h1, h2, h3, h4])⟩ hP hD hS
      · replace c23 : ((nI 1) ≤ m0 ∧ m0 ≤ (nI 12)) := c23
        obtain ⟨m, h_m, rfl⟩ := rng (m := 12) (by decide) ⟨Int32.le_trans (by decide) c23.1, c23.2⟩
        have e_m : (nI m).toNatClampNeg = m := nI_clamp (by omega)
        refine lv_iload hx hb dX12_fits_26 (lv_at hl 5 rfl) ?_
        refine lv_iconst (v := nI 0) hx hb dX12_fits_28 (by decide) ?_
        refine lv_iconst (v := nI 3) hx hb dX12_fits_29 (by decide) ?_
        refine call_i (wr := [(h, .inr (11, mO r v)), ((r 0), wInt (cy 0) 8 (A 0)), ((r 1), wInt (cy 0) 8 (A 1)), ((r 2), wInt (cy 0) 320 (A 2)), ((r 5), wInt (cy 0) 60 (A 5)), ((r 12), wInt (cy 0) 37 (A 12)), ((r 13), wInt (cy 0) 37 (A 13)), ((r 14), wInt (cy 0) 37 (A 14)), ((r 15), wInt (cy 0) 37 (A 15)), ((r 16), wInt (cy 0) 74 (A 16)), ((r 17), wInt (cy 1) 2 (A 17)), ((r 18), wInt (cy 0) 888 (A 18)), ((r 20), wInt (cy 0) 16 (A 20)), ((r 22), wInt (cy 0) 16 (A 22)), ((r 23), wInt (cy 0) 24 (A 23))]) (ws' := (fun _ : Unit => mW cy h r v A)) (va_runS (As := [.int w0, .int (nI 0), .int (nI 3)]) (rest := []) CF (k_X12_in l D cy _ w0 (nI 0) (nI 3) ) (va_cwS 3 hts gX12_fits_X12_in rfl rfl rfl (by decide +kernel) ⟨Nat.le_of_ble_eq_true rfl, Nat.le_of_ble_eq_true rfl⟩) (pre_S hKN hP hD [] rfl (by decide)) rfl rfl hl.1 rfl (lv_room (Nat.le_of_ble_eq_true rfl)) dX12_fits_30 ⟨Nat.le_of_ble_eq_true rfl, Nat.le_of_ble_eq_true rfl⟩) hS hA hP hD [] [0, 1, 2, 3, 4, 5, 6, 7, 8, 9, 10, 11, 12, 13, 14] [0, 1, 2, 3, 4, 5, 6, 7, 8, 9, 10, 11, 12, 13, 14] rfl rfl (by decide) (by decide) (fun _ => rfl) (by decide) (fun r11 u10 H locs hw12 hP hD hS => ?_)
        replace hw12 := hw12.symm; subst hw12
        refine ifneB (tgt := 39) hx hb dX12_fits_33 (by decide) (fun c33 => ?_) (fun c33 => ?_)
        · replace c33 : ((nI 0) ≤ w0 ∧ w0 ≤ (nI 3)) := c33
          obtain ⟨ww, h_ww, rfl⟩ := rng (m := 3) (by decide) c33
          have e_ww : (nI ww).toNatClampNeg = ww := nI_clamp (by omega)
          refine lv_aload_n hx hb dX12_fits_39 rfl (lv_at hl 0 rfl) ?_
          refine lv_iload_n hx hb dX12_fits_40 rfl (lv_at hl 2 rfl) ?_
          refine lv_iload_n hx hb dX12_fits_41 rfl (lv_at hl 3 rfl) ?_
          refine lv_iload hx hb dX12_fits_42 (lv_at hl 4 rfl) ?_
          refine call_i (wr := []) (ws' := (fun u13 : Int32 × (Nat → Int32) => mW cy h r (upd v 3 u13.1) (va_up A 22 u13.2))) (va_runV (As := [.int (nI kr), .int i0, .int (nI m)]) (rest := []) CF (k_X12_takeOut l D cy _ h r v A kr i0 (nI m) (by first | assumption | omega | decide) (by first | assumption | omega | decide) c23.2) (cwV 3 hts gX12_fits_X12_takeOut rfl rfl rfl (by decide +kernel) ⟨Nat.le_of_ble_eq_true rfl, Nat.le_of_ble_eq_true rfl⟩) (pre_V hKN hP hD [0, 1, 2, 3, 4, 5, 6, 7, 8, 9, 10, 11, 12, 13, 14] rfl (by decide) 0 11 rfl rfl) rfl rfl hl.1 rfl (lv_room (Nat.le_of_ble_eq_true rfl)) dX12_fits_44 ⟨Nat.le_of_ble_eq_true rfl, Nat.le_of_ble_eq_true rfl⟩) hS hA hP hD [0, 1, 2, 3, 4, 5, 6, 7, 8, 9, 10, 11, 12, 13, 14] [] [0, 1, 2, 3, 4, 5, 6, 7, 8, 9, 10, 11, 12, 13, 14] rfl rfl (by decide) (by decide) (fun _ => rfl) (by decide) (fun r14 u13 H locs hw15 hP hD hS => ?_)
          obtain ⟨hw15a, hw15b⟩ := hw15
          replace hw15a := hw15a.symm; subst hw15a
          replace hw15b := hw15b.symm; subst hw15b
          have hP : va_P D vwCl (mW cy h r (upd v 3 (tkV v A kr i0 (nI m))) (va_up A 22 (tkF A kr i0 (nI m)))) H := hP
          have hD : va_D A_ (mW cy h r (upd v 3 (tkV v A kr i0 (nI m))) (va_up A 22 (tkF A kr i0 (nI m)))) := hD
          refine lv_istore (lv' := [(6, .int (tkR A kr i0 (nI m))), (0, .ref h), (1, .int (nI k)), (2, .int (nI kr)), (3, .int i0), (4, .int (nI m)), (5, .int (nI ww))]) hx hb dX12_fits_47 hl (by decide) rfl (fun ls hl => ?_)
          refine lv_iload hx hb dX12_fits_49 (lv_at hl 0 rfl) ?_
          refine lv_if_ge (tgt := 57) hx hb dX12_fits_51 (by decide) (fun c51 => ?_) (fun c51 => ?_)
          · obtain ⟨hk1, hk2⟩ := tk_ok c51
            obtain ⟨z, hz, ez⟩ := hsz kr (by omega)
            obtain ⟨i1, m1, hin1, rfl, em1⟩ := isPrt_nat hz (by rw [← ez]; exact hk2)
            have em2 : m = m1 := (nIe (by omega) (by omega)).mp em1
            have e_i1 : (nI i1).toNatClampNeg = i1 := nI_clamp (by omega)
            have etk : tkF A kr (nI i1) (nI m) = tkN (A 22) (A 2) (40 * kr + i1) m := (by simp only [tkF, cl, e_i1, e_m]; rw [if_neg (fun h => h hk1), if_neg (fun h => h hk2)])
            have hdr : 0 < dr := h1 (by omega)
            rcases (show ww = 0 ∨ ww = 1 ∨ ww = 2 ∨ ww = 3 by omega) with qww | qww | qww | qww
            · subst qww
              refine lv_iload hx hb dX12_fits_57 (lv_at hl 6 rfl) ?_
              refine lv_if_eq (tgt := 68) hx hb dX12_fits_59 (by decide) (fun c59 => ?_) (fun c59 => absurd c59 (by decide))
              refine lv_iconst (v := nI 1) hx hb dX12_fits_68 (by decide) ?_
              refine lv_goto (tgt := 73) hx hb dX12_fits_69 (by decide) ?_
              refine lv_istore (lv' := [(7, .int (nI 1)), (6, .int (tkR A kr (nI i1) (nI m))), (0, .ref h), (1, .int (nI k)), (2, .int (nI kr)), (3, .int (nI i1)), (4, .int (nI m)), (5, .int (nI 0))]) hx hb dX12_fits_73 hl (by decide) rfl (fun ls hl => ?_)
              refine lv_iload hx hb dX12_fits_75 (lv_at hl 7 rfl) ?_
              refine lv_if_ne (tgt := 84) hx hb dX12_fits_77 (by decide) (fun c77 => absurd c77 (by decide)) (fun c77 => ?_)
              refine lv_iconst (v := nI 5) hx hb dX12_fits_80 (by decide) ?_
              refine lv_goto (tgt := 114) hx hb dX12_fits_81 (by decide) ?_
              refine lv_istore (lv' := [(8, .int (nI 5)), (7, .int (nI 1)), (6, .int (tkR A kr (nI i1) (nI m))), (0, .ref h), (1, .int (nI k)), (2, .int (nI kr)), (3, .int (nI i1)), (4, .int (nI m)), (5, .int (nI 0))]) hx hb dX12_fits_114 hl (by decide) rfl (fun ls hl => ?_)
              refine lv_iconst (v := nI 0) hx hb dX12_fits_116 (by decide) ?_
              refine lv_istore (lv' := [(9, .int (nI 0)), (8, .int (nI 5)), (7, .int (nI 1)), (6, .int (tkR A kr (nI i1) (nI m))), (0, .ref h), (1, .int (nI k)), (2, .int (nI kr)), (3, .int (nI i1)), (4, .int (nI m)), (5, .int (nI 0))]) hx hb dX12_fits_117 hl (by decide) rfl (fun ls hl => ?_)
              refine lv_iload hx hb dX12_fits_119 (lv_at hl 2 rfl) ?_
              refine lv_istore (lv' := [(10, .int (nI 1)), (9, .int (nI 0)), (8, .int (nI 5)), (7, .int (nI 1)), (6, .int (tkR A kr (nI i1) (nI m))), (0, .ref h), (1, .int (nI k)), (2, .int (nI kr)), (3, .int (nI i1)), (4, .int (nI m)), (5, .int (nI 0))]) hx hb dX12_fits_121 hl (by decide) rfl (fun ls hl => ?_)
              have lp123 : ∀ f_ : Nat, ∀ (x : Nat) (sx : Int32) (ft : Nat → Int32), (6 - x) < f_ → (x ≤ 6) → (1 ≤ x) → (sx = fitA (A 12) n k (tkF A kr (nI i1) (nI m)) m 0 1 x) → ∀ (H : Heap) (locs : List Loc), va_P D vwCl (mW cy h r (upd v 3 (tkV v A kr (nI i1) (nI m))) (va_up (va_up A 14 ft) 22 (tkF A kr (nI i1) (nI m)))) H → va_D A_ (mW cy h r (upd v 3 (tkV v A kr (nI i1) (nI m))) (va_up (va_up A 14 ft) 22 (tkF A kr (nI i1) (nI m)))) → va_S A_ s_.heap H locs → ∀ ls : Array Slot, lv_has ls 12 [(0, .ref h), (1, .int (nI k)), (4, .int (nI m)), (5, .int (nI 0)), (8, .int (nI 5)), (9, .int sx), (10, .int (nI x))] → W p_ l e_ (rmD 7) s_ m_ args_ below_ meth_ c_ H locs 0 0 Q_ (F0 m_ 123 ls []) := by
                intro f_
                induction f_ with
                | zero => intro x sx ft hm_; exact absurd hm_ (by omega)
                | succ f_ ih123 =>
                  intro x sx ft hm_ hv hl0 es H locs hP hD hS ls hl
                  refine lv_iload hx hb dX12_fits_123 (lv_at hl 6 rfl) ?_
                  refine lv_iload hx hb dX12_fits_125 (lv_at hl 4 rfl) ?_
                  refine gtN (tgt := 252) hx hb (by omega) (by decide) dX12_fits_127 (by decide) (fun c127 => ?_) (fun c127 => ?_)
                  · refine lv_aload_n hx hb dX12_fits_252 rfl (lv_at hl 0 rfl) ?_
                    refine lv_iload hx hb dX12_fits_253 (lv_at hl 5 rfl) ?_
                    refine call_i (wr := []) (ws' := (fun _ : Unit => mW cy h r (upd v 3 (nI 0)) (va_up (va_up A 14 ft) 22 (tkF A kr (nI i1) (nI m))))) (va_runV (As := [.int sx]) (rest := []) CF (k_X12_done l D cy _ h r (upd v 3 (tkV v A kr (nI i1) (nI m))) (va_up (va_up A 14 ft) 22 (tkF A kr (nI i1) (nI m))) sx ) (cwV 1 hts gX12_fits_X12_done rfl rfl rfl (by decide +kernel) ⟨Nat.le_of_ble_eq_true rfl, Nat.le_of_ble_eq_true rfl⟩) (pre_V hKN hP hD [0, 1, 2, 3, 4, 5, 6, 7, 8, 9, 10, 11, 12, 13, 14] rfl (by decide) 0 11 rfl rfl) rfl rfl hl.1 rfl (lv_room (Nat.le_of_ble_eq_true rfl)) dX12_fits_255 ⟨Nat.le_of_ble_eq_true rfl, Nat.le_of_ble_eq_true rfl⟩) hS hA hP hD [0, 1, 2, 3, 4, 5, 6, 7, 8, 9, 10, 11, 12, 13, 14] [] [0, 1, 2, 3, 4, 5, 6, 7, 8, 9, 10, 11, 12, 13, 14] rfl rfl (by decide) (by decide) (fun _ => rfl) (by decide) (fun r17 u16 H locs hw18 hP hD hS => ?_)
                    replace hw18 := hw18.symm; subst hw18
                    exact ret _ ((upd v 3 (nI 0)), (va_up (va_up A 14 ft) 22 (tkF A kr (nI i1) (nI m)))) _ _ _ _ dX12_fits_258 ⟨(by have hx9 : x = 6 := (by omega); rw [mFit, if_neg (fun h => h.elim (fun h => h c5) (fun h => h.elim (fun h => h c12) (fun h => h.elim (fun h => h c23) (fun h => h c33)))), show cl (nI k) = k from e_k, show cl (nI kr) = kr from e_kr, show cl (nI m) = m from e_m, show cl (nI i1) = i1 from e_i1, if_neg (fun h => h c51), es, hx9]; exact fitA_congr (fun j hj => by rw [etk, tkN_at _ _ _ _ _ hj]) _), (by rw [mFit, if_neg (fun h => h.elim (fun h => h c5) (fun h => h.elim (fun h => h c12) (fun h => h.elim (fun h => h c23) (fun h => h c33)))), show cl (nI k) = k from e_k, show cl (nI kr) = kr from e_kr, show cl (nI m) = m from e_m, if_neg (fun h => h c51)]), (fun j h1 h2 h3 h4 => by simp [va_up, h1, h2, h3, h4])⟩ hP hD hS
                  · refine lv_aload_n hx hb dX12_fits_130 rfl (lv_at hl 0 rfl) ?_
                    refine call_v (wr := []) (ws' := (fun _ : Unit => mW cy h r (upd v 3 (tkV v A kr (nI i1) (nI m))) (va_up (va_up A 22 (tkF A kr (nI i1) (nI m))) 14 (A 12)))) (va_runV (As := []) (rest := []) CF (k_X12_begin l D cy _ h r (upd v 3 (tkV v A kr (nI i1) (nI m))) (va_up (va_up A 14 ft) 22 (tkF A kr (nI i1) (nI m))) ) (cwV 0 hts gX12_fits_X12_begin rfl rfl rfl (by decide +kernel) ⟨Nat.le_of_ble_eq_true rfl, Nat.le_of_ble_eq_true rfl⟩) (pre_V hKN hP hD [0, 1, 2, 3, 4, 5, 6, 7, 8, 9, 10, 11, 12, 13, 14] rfl (by decide) 0 11 rfl rfl) rfl rfl hl.1 rfl (lv_room (Nat.le_of_ble_eq_true rfl)) dX12_fits_131 ⟨Nat.le_of_ble_eq_true rfl, Nat.le_of_ble_eq_true rfl⟩) hS hA hP hD [0, 1, 2, 3, 4, 5, 6, 7, 8, 9, 10, 11, 12, 13, 14] [] [0, 1, 2, 3, 4, 5, 6, 7, 8, 9, 10, 11, 12, 13, 14] rfl rfl (by decide) (by decide) (fun _ => rfl) (by decide) (fun u19 H locs hw21 hP hD hS => ?_)
                    refine lv_iload hx hb dX12_fits_134 (lv_at hl 3 rfl) ?_
                    refine lv_iconst (v := nI 3) hx hb dX12_fits_136 (by decide) ?_
                    refine neN (tgt := 167) hx hb (by decide) (by decide) dX12_fits_137 (by decide) (fun c137 => ?_) (fun c137 => absurd c137 (by decide))
                    refine lv_aload_n hx hb dX12_fits_167 rfl (lv_at hl 0 rfl) ?_
                    refine va_get (ci := 11) (v := .ref (r 14)) (C := RX12) (T := TX12) (N := 24) hx hb hts hinX12 hown hK hP 0 rfl rfl 14 (by decide) hf28 (fun _ h9 => h9) rfl dX12_fits_168 ?_
                    refine lv_iload hx hb dX12_fits_171 (lv_at hl 3 rfl) ?_
                    refine lv_if_ne (tgt := 182) hx hb dX12_fits_173 (by decide) (fun c173 => absurd c173 (by decide)) (fun c173 => ?_)
                    refine lv_iconst (v := nI 5) hx hb dX12_fits_176 (by decide) ?_
                    refine lv_iload_n hx hb dX12_fits_177 rfl (lv_at hl 1 rfl) ?_
                    refine adN (k := 5 + k) hx hb rfl dX12_fits_178 ?_
                    refine lv_goto (tgt := 196) hx hb dX12_fits_179 (by decide) ?_
                    refine lv_iload hx hb dX12_fits_196 (lv_at hl 6 rfl) ?_
                    refine stN (f := (A 12)) (ws' := mW cy h r (upd v 3 (tkV v A kr (nI i1) (nI m))) (va_up (va_up A 22 (tkF A kr (nI i1) (nI m))) 14 (upd (A 12) (5 + k) (nI x)))) hx hb hK hP hD hS 7 rfl (j := 5 + k) (by omega) (by decide) dX12_fits_198 rfl (fun H locs hP hD hS => ?_)
                    refine lv_iload hx hb dX12_fits_199 (lv_at hl 3 rfl) ?_
                    refine lv_iconst (v := nI 1) hx hb dX12_fits_201 (by decide) ?_
                    refine neN (tgt := 211) hx hb (by decide) (by decide) dX12_fits_202 (by decide) (fun c202 => ?_) (fun c202 => absurd c202 (by decide))
                    have hCf : Cat (upd (A 12) (5 + k) (nI x)) n := hC.sort (by omega) (by omega) (by omega)
                    refine lv_aload_n hx hb dX12_fits_211 rfl (lv_at hl 0 rfl) ?_
                    refine lv_iload_n hx hb dX12_fits_212 rfl (lv_at hl 1 rfl) ?_
                    refine lv_iload hx hb dX12_fits_213 (lv_at hl 2 rfl) ?_
                    refine call_i (wr := []) (ws' := (fun u22 : (Nat → Int32) => mW cy h r (upd v 3 (tkV v A kr (nI i1) (nI m))) (va_up (va_up A 22 (tkF A kr (nI i1) (nI m))) 14 u22))) (va_runV (As := [.int (nI k), .int (nI m)]) (rest := []) CF (k_X12_isSo l D cy _ h r (upd v 3 (tkV v A kr (nI i1) (nI m))) (va_up (va_up A 22 (tkF A kr (nI i1) (nI m))) 14 (upd (A 12) (5 + k) (nI x))) n k m hCf (by first | assumption | omega | decide) (by first | assumption | omega | decide)) (cwV 2 hts gX12_fits_X12_isSo rfl rfl rfl (by decide +kernel) ⟨Nat.le_of_ble_eq_true rfl, Nat.le_of_ble_eq_true rfl⟩) (pre_V hKN hP hD [0, 1, 2, 3, 4, 5, 6, 7, 8, 9, 10, 11, 12, 13, 14] rfl (by decide) 0 11 rfl rfl) rfl rfl hl.1 rfl (lv_room (Nat.le_of_ble_eq_true rfl)) dX12_fits_215 ⟨Nat.le_of_ble_eq_true rfl, Nat.le_of_ble_eq_true rfl⟩) hS hA hP hD [0, 1, 2, 3, 4, 5, 6, 7, 8, 9, 10, 11, 12, 13, 14] [] [0, 1, 2, 3, 4, 5, 6, 7, 8, 9, 10, 11, 12, 13, 14] rfl rfl (by decide) (by decide) (fun _ => rfl) (by decide) (fun r23 u22 H locs hw24 hP hD hS => ?_)
                    replace hw24 := hw24.symm; subst hw24
                    have hP : va_P D vwCl (mW cy h r (upd v 3 (tkV v A kr (nI i1) (nI m))) (va_up (va_up A 22 (tkF A kr (nI i1) (nI m))) 14 u22)) H := hP
                    have hD : va_D A_ (mW cy h r (upd v 3 (tkV v A kr (nI i1) (nI m))) (va_up (va_up A 22 (tkF A kr (nI i1) (nI m))) 14 u22)) := hD
                    refine ifeqB (tgt := 225) hx hb dX12_fits_218 (by decide) (fun c218 => ?_) (fun c218 => ?_)
                    · replace c218 : ¬ (soB ((upd (A 12) (5 + k) (nI x))) n k ((tkF A kr (nI i1) (nI m))) m 0 = true) := c218
                      refine lv_iconst (v := nI 0) hx hb dX12_fits_225 (by decide) ?_
                      refine lv_istore (lv' := [(11, .int (nI 0)), (0, .ref h), (1, .int (nI k)), (4, .int (nI m)), (5, .int (nI 0)), (8, .int (nI 5)), (9, .int sx), (10, .int (nI x))]) hx hb dX12_fits_226 hl (by decide) rfl (fun ls hl => ?_)
                      refine lv_iload hx hb dX12_fits_228 (lv_at hl 6 rfl) ?_
                      refine lv_iload hx hb dX12_fits_230 (lv_at hl 0 rfl) ?_
                      refine lv_if_eq (tgt := 242) hx hb dX12_fits_232 (by decide) (fun c232 => ?_) (fun c232 => absurd c232 (by decide))
                      refine lv_iconst (v := nI 0) hx hb dX12_fits_242 (by decide) ?_
                      refine lv_ior hx hb dX12_fits_243 ?_
                      refine lv_istore (lv' := [(9, .int (sx ||| nI 0)), (11, .int (nI 0)), (0, .ref h), (1, .int (nI k)), (4, .int (nI m)), (5, .int (nI 0)), (8, .int (nI 5)), (10, .int (nI x))]) hx hb dX12_fits_244 hl (by decide) rfl (fun ls hl => ?_)
                      refine lv_iinc (v := nI (x + 1)) (lv' := [(10, .int (nI (x + 1))), (9, .int (sx ||| nI 0)), (11, .int (nI 0)), (0, .ref h), (1, .int (nI k)), (4, .int (nI m)), (5, .int (nI 0)), (8, .int (nI 5))]) hx hb dX12_fits_246 hl (k := 7) rfl (nI_1 _) (by decide) rfl (fun ls hl => ?_)
                      refine lv_goto (tgt := 123) hx hb dX12_fits_249 (by decide) ?_
                      exact ih123 (x + 1) (sx ||| nI 0) u22 (by omega) (by omega) (by omega) (by rw [fitA, ← es, if_neg (fun q => c218 (by rw [← fitB_0]; exact q.2))]) _ _ hP hD hS ls (lv_sub hl [3, 4, 5, 6, 7, 1, 0] rfl)
                    · replace c218 : (soB ((upd (A 12) (5 + k) (nI x))) n k ((tkF A kr (nI i1) (nI m))) m 0 = true) := c218
                      refine lv_iconst (v := nI 1) hx hb dX12_fits_221 (by decide) ?_
                      refine lv_goto (tgt := 226) hx hb dX12_fits_222 (by decide) ?_
                      refine lv_istore (lv' := [(11, .int (nI 1)), (0, .ref h), (1, .int (nI k)), (4, .int (nI m)), (5, .int (nI 0)), (8, .int (nI 5)), (9, .int sx), (10, .int (nI x))]) hx hb dX12_fits_226 hl (by decide) rfl (fun ls hl => ?_)
                      refine lv_iload hx hb dX12_fits_228 (lv_at hl 6 rfl) ?_
                      refine lv_iload hx hb dX12_fits_230 (lv_at hl 0 rfl) ?_
                      refine lv_if_eq (tgt := 242) hx hb dX12_fits_232 (by decide) (fun c232 => absurd c232 (by decide)) (fun c232 => ?_)
                      refine lv_iconst (v := nI 1) hx hb dX12_fits_235 (by decide) ?_
                      refine lv_iload hx hb dX12_fits_236 (lv_at hl 7 rfl) ?_
                      refine lv_ishl hx hb dX12_fits_238 ?_
                      refine lv_goto (tgt := 243) hx hb dX12_fits_239 (by decide) ?_
                      refine lv_ior hx hb dX12_fits_243 ?_
                      refine lv_istore (lv' := [(9, .int (sx ||| (nI 1 <<< (nI x &&& 31)))), (11, .int (nI 1)), (0, .ref h), (1, .int (nI k)), (4, .int (nI m)), (5, .int (nI 0)), (8, .int (nI 5)), (10, .int (nI x))]) hx hb dX12_fits_244 hl (by decide) rfl (fun ls hl => ?_)
                      refine lv_iinc (v := nI (x + 1)) (lv' := [(10, .int (nI (x + 1))), (9, .int (sx ||| (nI 1 <<< (nI x &&& 31)))), (11, .int (nI 1)), (0, .ref h), (1, .int (nI k)), (4, .int (nI m)), (5, .int (nI 0)), (8, .int (nI 5))]) hx hb dX12_fits_246 hl (k := 7) rfl (nI_1 _) (by decide) rfl (fun ls hl => ?_)
                      refine lv_goto (tgt := 123) hx hb dX12_fits_249 (by decide) ?_
                      exact ih123 (x + 1) (sx ||| (nI 1 <<< (nI x &&& 31))) u22 (by omega) (by omega) (by omega) (by rw [fitA, ← es, if_pos ⟨(by omega), (by rw [fitB_0]; exact c218)⟩]) _ _ hP hD hS ls (lv_sub hl [3, 4, 5, 6, 7, 1, 0] rfl)
              exact lp123 (6 - 1 + 1) 1 (nI 0) (A 14) (by omega) (by omega) (by omega) (by rw [fitA, fitA, if_neg (fun q => absurd q.1 (by decide))]; rfl) _ _ hP hD hS ls (lv_sub hl [5, 6, 9, 10, 2, 1, 0] rfl)
            · subst qww
              refine lv_iload hx hb dX12_fits_57 (lv_at hl 6 rfl) ?_
              refine lv_if_eq (tgt := 68) hx hb dX12_fits_59 (by decide) (fun c59 => absurd c59 (by decide)) (fun c59 => ?_)
              refine lv_iload hx hb dX12_fits_62 (lv_at hl 6 rfl) ?_
              refine lv_iconst (v := nI 2) hx hb dX12_fits_64 (by decide) ?_
              refine neN (tgt := 72) hx hb (by decide) (by decide) dX12_fits_65 (by decide) (fun c65 => ?_) (fun c65 => absurd c65 (by decide))
              refine lv_iconst (v := nI 0) hx hb dX12_fits_72 (by decide) ?_
              refine lv_istore (lv' := [(7, .int (nI 0)), (6, .int (tkR A kr (nI i1) (nI m))), (0, .ref h), (1, .int (nI k)), (2, .int (nI kr)), (3, .int (nI i1)), (4, .int (nI m)), (5, .int (nI 1))]) hx hb dX12_fits_73 hl (by decide) rfl (fun ls hl => ?_)
              refine lv_iload hx hb dX12_fits_75 (lv_at hl 7 rfl) ?_
              refine lv_if_ne (tgt := 84) hx hb dX12_fits_77 (by decide) (fun c77 => ?_) (fun c77 => absurd c77 (by decide))
              refine lv_iload hx hb dX12_fits_84 (lv_at hl 7 rfl) ?_
              refine lv_iconst (v := nI 1) hx hb dX12_fits_86 (by decide) ?_
              refine neN (tgt := 95) hx hb (by decide) (by decide) dX12_fits_87 (by decide) (fun c87 => absurd c87 (by decide)) (fun c87 => ?_)
              refine lv_bipush (v := nI 7) hx hb dX12_fits_90 (by decide) ?_
              refine lv_goto (tgt := 114) hx hb dX12_fits_92 (by decide) ?_
              refine lv_istore (lv' := [(8, .int (nI 7)), (7, .int (nI 0)), (6, .int (tkR A kr (nI i1) (nI m))), (0, .ref h), (1, .int (nI k)), (2, .int (nI kr)), (3, .int (nI i1)), (4, .int (nI m)), (5, .int (nI 1))]) hx hb dX12_fits_114 hl (by decide) rfl (fun ls hl => ?_)
              refine lv_iconst (v := nI 0) hx hb dX12_fits_116 (by decide) ?_
              refine lv_istore (lv' := [(9, .int (nI 0)), (8, .int (nI 7)), (7, .int (nI 0)), (6, .int (tkR A kr (nI i1) (nI m))), (0, .ref h), (1, .int (nI k)), (2, .int (nI kr)), (3, .int (nI i1)), (4, .int (nI m)), (5, .int (nI 1))]) hx hb dX12_fits_117 hl (by decide) rfl (fun ls hl => ?_)
              refine lv_iload hx hb dX12_fits_119 (lv_at hl 2 rfl) ?_
              refine lv_istore (lv' := [(10, .int (nI 0)), (9, .int (nI 0)), (8, .int (nI 7)), (7, .int (nI 0)), (6, .int (tkR A kr (nI i1) (nI m))), (0, .ref h), (1, .int (nI k)), (2, .int (nI kr)), (3, .int (nI i1)), (4, .int (nI m)), (5, .int (nI 1))]) hx hb dX12_fits_121 hl (by decide) rfl (fun ls hl => ?_)
              have lp123 : ∀ f_ : Nat, ∀ (x : Nat) (sx : Int32) (ft : Nat → Int32), (8 - x) < f_ → (x ≤ 8) → (0 ≤ x) → (sx = fitA (A 12) n k (tkF A kr (nI i1) (nI m)) m 1 0 x) → ∀ (H : Heap) (locs : List Loc), va_P D vwCl (mW cy h r (upd v 3 (tkV v A kr (nI i1) (nI m))) (va_up (va_up A 14 ft) 22 (tkF A kr (nI i1) (nI m)))) H → va_D A_ (mW cy h r (upd v 3 (tkV v A kr (nI i1) (nI m))) (va_up (va_up A 14 ft) 22 (tkF A kr (nI i1) (nI m)))) → va_S A_ s_.heap H locs → ∀ ls : Array Slot, lv_has ls 12 [(0, .ref h), (1, .int (nI k)), (4, .int (nI m)), (5, .int (nI 1)), (8, .int (nI 7)), (9, .int sx), (10, .int (nI x))] → W p_ l e_ (rmD 7) s_ m_ args_ below_ meth_ c_ H locs 0 0 Q_ (F0 m_ 123 ls []) := by
                intro f_
                induction f_ with
                | zero => intro x sx ft hm_; exact absurd hm_ (by omega)
                | succ f_ ih123 =>
                  intro x sx ft hm_ hv hl0 es H locs hP hD hS ls hl
                  refine lv_iload hx hb dX12_fits_123 (lv_at hl 6 rfl) ?_
                  refine lv_iload hx hb dX12_fits_125 (lv_at hl 4 rfl) ?_
                  refine gtN (tgt := 252) hx hb (by omega) (by decide) dX12_fits_127 (by decide) (fun c127 => ?_) (fun c127 => ?_)
                  · refine lv_aload_n hx hb dX12_fits_252 rfl (lv_at hl 0 rfl) ?_
                    refine lv_iload hx hb dX12_fits_253 (lv_at hl 5 rfl) ?_
                    refine call_i (wr := []) (ws' := (fun _ : Unit => mW cy h r (upd v 3 (nI 0)) (va_up (va_up A 14 ft) 22 (tkF A kr (nI i1) (nI m))))) (va_runV (As := [.int sx]) (rest := []) CF (k_X12_done l D cy _ h r (upd v 3 (tkV v A kr (nI i1) (nI m))) (va_up (va_up A 14 ft) 22 (tkF A kr (nI i1) (nI m))) sx ) (cwV 1 hts gX12_fits_X12_done rfl rfl rfl (by decide +kernel) ⟨Nat.le_of_ble_eq_true rfl, Nat.le_of_ble_eq_true rfl⟩) (pre_V hKN hP hD [0, 1, 2, 3, 4, 5, 6, 7, 8, 9, 10, 11, 12, 13, 14] rfl (by decide) 0 11 rfl rfl) rfl rfl hl.1 rfl (lv_room (Nat.le_of_ble_eq_true rfl)) dX12_fits_255 ⟨Nat.le_of_ble_eq_true rfl, Nat.le_of_ble_eq_true rfl⟩) hS hA hP hD [0, 1, 2, 3, 4, 5, 6, 7, 8, 9, 10, 11, 12, 13, 14] [] [0, 1, 2, 3, 4, 5, 6, 7, 8, 9, 10, 11, 12, 13, 14] rfl rfl (by decide) (by decide) (fun _ => rfl) (by decide) (fun r26 u25 H locs hw27 hP hD hS => ?_)
                    replace hw27 := hw27.symm; subst hw27
                    exact ret _ ((upd v 3 (nI 0)), (va_up (va_up A 14 ft) 22 (tkF A kr (nI i1) (nI m)))) _ _ _ _ dX12_fits_258 ⟨(by have hx9 : x = 8 := (by omega); rw [mFit, if_neg (fun h => h.elim (fun h => h c5) (fun h => h.elim (fun h => h c12) (fun h => h.elim (fun h => h c23) (fun h => h c33)))), show cl (nI k) = k from e_k, show cl (nI kr) = kr from e_kr, show cl (nI m) = m from e_m, show cl (nI i1) = i1 from e_i1, if_neg (fun h => h c51), es, hx9]; exact fitA_congr (fun j hj => by rw [etk, tkN_at _ _ _ _ _ hj]) _), (by rw [mFit, if_neg (fun h => h.elim (fun h => h c5) (fun h => h.elim (fun h => h c12) (fun h => h.elim (fun h => h c23) (fun h => h c33)))), show cl (nI k) = k from e_k, show cl (nI kr) = kr from e_kr, show cl (nI m) = m from e_m, if_neg (fun h => h c51)]), (fun j h1 h2 h3 h4 => by simp [va_up, h1, h2, h3, h4])⟩ hP hD hS
                  · refine lv_aload_n hx hb dX12_fits_130 rfl (lv_at hl 0 rfl) ?_
                    refine call_v (wr := []) (ws' := (fun _ : Unit => mW cy h r (upd v 3 (tkV v A kr (nI i1) (nI m))) (va_up (va_up A 22 (tkF A kr (nI i1) (nI m))) 14 (A 12)))) (va_runV (As := []) (rest := []) CF (k_X12_begin l D cy _ h r (upd v 3 (tkV v A kr (nI i1) (nI m))) (va_up (va_up A 14 ft) 22 (tkF A kr (nI i1) (nI m))) ) (cwV 0 hts gX12_fits_X12_begin rfl rfl rfl (by decide +kernel) ⟨Nat.le_of_ble_eq_true rfl, Nat.le_of_ble_eq_true rfl⟩) (pre_V hKN hP hD [0, 1, 2, 3, 4, 5, 6, 7, 8, 9, 10, 11, 12, 13, 14] rfl (by decide) 0 11 rfl rfl) rfl rfl hl.1 rfl (lv_room (Nat.le_of_ble_eq_true rfl)) dX12_fits_131 ⟨Nat.le_of_ble_eq_true rfl, Nat.le_of_ble_eq_true rfl⟩) hS hA hP hD [0, 1, 2, 3, 4, 5, 6, 7, 8, 9, 10, 11, 12, 13, 14] [] [0, 1, 2, 3, 4, 5, 6, 7, 8, 9, 10, 11, 12, 13, 14] rfl rfl (by decide) (by decide) (fun _ => rfl) (by decide) (fun u28 H locs hw30 hP hD hS => ?_)
                    refine lv_iload hx hb dX12_fits_134 (lv_at hl 3 rfl) ?_
                    refine lv_iconst (v := nI 3) hx hb dX12_fits_136 (by decide) ?_
                    refine neN (tgt := 167) hx hb (by decide) (by decide) dX12_fits_137 (by decide) (fun c137 => ?_) (fun c137 => absurd c137 (by decide))
                    refine lv_aload_n hx hb dX12_fits_167 rfl (lv_at hl 0 rfl) ?_
                    refine va_get (ci := 11) (v := .ref (r 14)) (C := RX12) (T := TX12) (N := 24) hx hb hts hinX12 hown hK hP 0 rfl rfl 14 (by decide) hf28 (fun _ h9 => h9) rfl dX12_fits_168 ?_
                    refine lv_iload hx hb dX12_fits_171 (lv_at hl 3 rfl) ?_
                    refine lv_if_ne (tgt := 182) hx hb dX12_fits_173 (by decide) (fun c173 => ?_) (fun c173 => absurd c173 (by decide))
                    refine lv_iload hx hb dX12_fits_182 (lv_at hl 3 rfl) ?_
                    refine lv_iconst (v := nI 1) hx hb dX12_fits_184 (by decide) ?_
                    refine neN (tgt := 195) hx hb (by decide) (by decide) dX12_fits_185 (by decide) (fun c185 => absurd c185 (by decide)) (fun c185 => ?_)
                    refine lv_bipush (v := nI 13) hx hb dX12_fits_188 (by decide) ?_
                    refine lv_iload_n hx hb dX12_fits_190 rfl (lv_at hl 1 rfl) ?_
                    refine adN (k := 13 + k) hx hb rfl dX12_fits_191 ?_
                    refine lv_goto (tgt := 196) hx hb dX12_fits_192 (by decide) ?_
                    refine lv_iload hx hb dX12_fits_196 (lv_at hl 6 rfl) ?_
                    refine stN (f := (A 12)) (ws' := mW cy h r (upd v 3 (tkV v A kr (nI i1) (nI m))) (va_up (va_up A 22 (tkF A kr (nI i1) (nI m))) 14 (upd (A 12) (13 + k) (nI x)))) hx hb hK hP hD hS 7 rfl (j := 13 + k) (by omega) (by decide) dX12_fits_198 rfl (fun H locs hP hD hS => ?_)
                    refine lv_iload hx hb dX12_fits_199 (lv_at hl 3 rfl) ?_
                    refine lv_iconst (v := nI 1) hx hb dX12_fits_201 (by decide) ?_
                    refine neN (tgt := 211) hx hb (by decide) (by decide) dX12_fits_202 (by decide) (fun c202 => absurd c202 (by decide)) (fun c202 => ?_)
                    refine lv_iload hx hb dX12_fits_205 (lv_at hl 6 rfl) ?_
                    refine lv_iload_n hx hb dX12_fits_207 rfl (lv_at hl 1 rfl) ?_
                    refine eqN (tgt := 225) hx hb (by omega) (by omega) dX12_fits_208 (by decide) (fun c208 => ?_) (fun c208 => ?_)
                    · refine lv_iconst (v := nI 0) hx hb dX12_fits_225 (by decide) ?_
                      refine lv_istore (lv' := [(11, .int (nI 0)), (0, .ref h), (1, .int (nI k)), (4, .int (nI m)), (5, .int (nI 1)), (8, .int (nI 7)), (9, .int sx), (10, .int (nI x))]) hx hb dX12_fits_226 hl (by decide) rfl (fun ls hl => ?_)
                      refine lv_iload hx hb dX12_fits_228 (lv_at hl 6 rfl) ?_
                      refine lv_iload hx hb dX12_fits_230 (lv_at hl 0 rfl) ?_
                      refine lv_if_eq (tgt := 242) hx hb dX12_fits_232 (by decide) (fun c232 => ?_) (fun c232 => absurd c232 (by decide))
                      refine lv_iconst (v := nI 0) hx hb dX12_fits_242 (by decide) ?_
                      refine lv_ior hx hb dX12_fits_243 ?_
                      refine lv_istore (lv' := [(9, .int (sx ||| nI 0)), (11, .int (nI 0)), (0, .ref h), (1, .int (nI k)), (4, .int (nI m)), (5, .int (nI 1)), (8, .int (nI 7)), (10, .int (nI x))]) hx hb dX12_fits_244 hl (by decide) rfl (fun ls hl => ?_)
                      refine lv_iinc (v := nI (x + 1)) (lv' := [(10, .int (nI (x + 1))), (9, .int (sx ||| nI 0)), (11, .int (nI 0)), (0, .ref h), (1, .int (nI k)), (4, .int (nI m)), (5, .int (nI 1)), (8, .int (nI 7))]) hx hb dX12_fits_246 hl (k := 7) rfl (nI_1 _) (by decide) rfl (fun ls hl => ?_)
                      refine lv_goto (tgt := 123) hx hb dX12_fits_249 (by decide) ?_
                      exact ih123 (x + 1) (sx ||| nI 0) (upd (A 12) (13 + k) (nI x)) (by omega) (by omega) (by omega) (by rw [fitA, ← es, if_neg (fun q => fitB_1c c208 q.2)]) _ _ hP hD hS ls (lv_sub hl [3, 4, 5, 6, 7, 1, 0] rfl)
                    · have hCf : Cat (upd (A 12) (13 + k) (nI x)) n := hC.like (by omega) (by omega) c208
                      refine lv_aload_n hx hb dX12_fits_211 rfl (lv_at hl 0 rfl) ?_
                      refine lv_iload_n hx hb dX12_fits_212 rfl (lv_at hl 1 rfl) ?_
                      refine lv_iload hx hb dX12_fits_213 (lv_at hl 2 rfl) ?_
                      refine call_i (wr := []) (ws' := (fun u31 : (Nat → Int32) => mW cy h r (upd v 3 (tkV v A kr (nI i1) (nI m))) (va_up (va_up A 22 (tkF A kr (nI i1) (nI m))) 14 u31))) (va_runV (As := [.int (nI k), .int (nI m)]) (rest := []) CF (k_X12_isSo l D cy _ h r (upd v 3 (tkV v A kr (nI i1) (nI m))) (va_up (va_up A 22 (tkF A kr (nI i1) (nI m))) 14 (upd (A 12) (13 + k) (nI x))) n k m hCf (by first | assumption | omega | decide) (by first | assumption | omega | decide)) (cwV 2 hts gX12_fits_X12_isSo rfl rfl rfl (by decide +kernel) ⟨Nat.le_of_ble_eq_true rfl, Nat.le_of_ble_eq_true rfl⟩) (pre_V hKN hP hD [0, 1, 2, 3, 4, 5, 6, 7, 8, 9, 10, 11, 12, 13, 14] rfl (by decide) 0 11 rfl rfl) rfl rfl hl.1 rfl (lv_room (Nat.le_of_ble_eq_true rfl)) dX12_fits_215 ⟨Nat.le_of_ble_eq_true rfl, Nat.le_of_ble_eq_true rfl⟩) hS hA hP hD [0, 1, 2, 3, 4, 5, 6, 7, 8, 9, 10, 11, 12, 13, 14] [] [0, 1, 2, 3, 4, 5, 6, 7, 8, 9, 10, 11, 12, 13, 14] rfl rfl (by decide) (by decide) (fun _ => rfl) (by decide) (fun r32 u31 H locs hw33 hP hD hS => ?_)
                      replace hw33 := hw33.symm; subst hw33
                      have hP : va_P D vwCl (mW cy h r (upd v 3 (tkV v A kr (nI i1) (nI m))) (va_up (va_up A 22 (tkF A kr (nI i1) (nI m))) 14 u31)) H := hP
                      have hD : va_D A_ (mW cy h r (upd v 3 (tkV v A kr (nI i1) (nI m))) (va_up (va_up A 22 (tkF A kr (nI i1) (nI m))) 14 u31)) := hD
                      refine ifeqB (tgt := 225) hx hb dX12_fits_218 (by decide) (fun c218 => ?_) (fun c218 => ?_)
                      · replace c218 : ¬ (soB ((upd (A 12) (13 + k) (nI x))) n k ((tkF A kr (nI i1) (nI m))) m 0 = true) := c218
                        refine lv_iconst (v := nI 0) hx hb dX12_fits_225 (by decide) ?_
                        refine lv_istore (lv' := [(11, .int (nI 0)), (0, .ref h), (1, .int (nI k)), (4, .int (nI m)), (5, .int (nI 1)), (8, .int (nI 7)), (9, .int sx), (10, .int (nI x))]) hx hb dX12_fits_226 hl (by decide) rfl (fun ls hl => ?_)
                        refine lv_iload hx hb dX12_fits_228 (lv_at hl 6 rfl) ?_
                        refine lv_iload hx hb dX12_fits_230 (lv_at hl 0 rfl) ?_
                        refine lv_if_eq (tgt := 242) hx hb dX12_fits_232 (by decide) (fun c232 => ?_) (fun c232 => absurd c232 (by decide))
                        refine lv_iconst (v := nI 0) hx hb dX12_fits_242 (by decide) ?_
                        refine lv_ior hx hb dX12_fits_243 ?_
                        refine lv_istore (lv' := [(9, .int (sx ||| nI 0)), (11, .int (nI 0)), (0, .ref h), (1, .int (nI k)), (4, .int (nI m)), (5, .int (nI 1)), (8, .int (nI 7)), (10, .int (nI x))]) hx hb dX12_fits_244 hl (by decide) rfl (fun ls hl => ?_)
                        refine lv_iinc (v := nI (x + 1)) (lv' := [(10, .int (nI (x + 1))), (9, .int (sx ||| nI 0)), (11, .int (nI 0)), (0, .ref h), (1, .int (nI k)), (4, .int (nI m)), (5, .int (nI 1)), (8, .int (nI 7))]) hx hb dX12_fits_246 hl (k := 7) rfl (nI_1 _) (by decide) rfl (fun ls hl => ?_)
                        refine lv_goto (tgt := 123) hx hb dX12_fits_249 (by decide) ?_
                        exact ih123 (x + 1) (sx ||| nI 0) u31 (by omega) (by omega) (by omega) (by rw [fitA, ← es, if_neg (fun q => c218 (by rw [← (fitB_1 c208)]; exact q.2))]) _ _ hP hD hS ls (lv_sub hl [3, 4, 5, 6, 7, 1, 0] rfl)
                      · replace c218 : (soB ((upd (A 12) (13 + k) (nI x))) n k ((tkF A kr (nI i1) (nI m))) m 0 = true) := c218
                        refine lv_iconst (v := nI 1) hx hb dX12_fits_221 (by decide) ?_
                        refine lv_goto (tgt := 226) hx hb dX12_fits_222 (by decide) ?_
                        refine lv_istore (lv' := [(11, .int (nI 1)), (0, .ref h), (1, .int (nI k)), (4, .int (nI m)), (5, .int (nI 1)), (8, .int (nI 7)), (9, .int sx), (10, .int (nI x))]) hx hb dX12_fits_226 hl (by decide) rfl (fun ls hl => ?_)
                        refine lv_iload hx hb dX12_fits_228 (lv_at hl 6 rfl) ?_
                        refine lv_iload hx hb dX12_fits_230 (lv_at hl 0 rfl) ?_
                        refine lv_if_eq (tgt := 242) hx hb dX12_fits_232 (by decide) (fun c232 => absurd c232 (by decide)) (fun c232 => ?_)
                        refine lv_iconst (v := nI 1) hx hb dX12_fits_235 (by decide) ?_
                        refine lv_iload hx hb dX12_fits_236 (lv_at hl 7 rfl) ?_
                        refine lv_ishl hx hb dX12_fits_238 ?_
                        refine lv_goto (tgt := 243) hx hb dX12_fits_239 (by decide) ?_
                        refine lv_ior hx hb dX12_fits_243 ?_
                        refine lv_istore (lv' := [(9, .int (sx ||| (nI 1 <<< (nI x &&& 31)))), (11, .int (nI 1)), (0, .ref h), (1, .int (nI k)), (4, .int (nI m)), (5, .int (nI 1)), (8, .int (nI 7)), (10, .int (nI x))]) hx hb dX12_fits_244 hl (by decide) rfl (fun ls hl => ?_)
                        refine lv_iinc (v := nI (x + 1)) (lv' := [(10, .int (nI (x + 1))), (9, .int (sx ||| (nI 1 <<< (nI x &&& 31)))), (11, .int (nI 1)), (0, .ref h), (1, .int (nI k)), (4, .int (nI m)), (5, .int (nI 1)), (8, .int (nI 7))]) hx hb dX12_fits_246 hl (k := 7) rfl (nI_1 _) (by decide) rfl (fun ls hl => ?_)
                        refine lv_goto (tgt := 123) hx hb dX12_fits_249 (by decide) ?_
                        exact ih123 (x + 1) (sx ||| (nI 1 <<< (nI x &&& 31))) u31 (by omega) (by omega) (by omega) (by rw [fitA, ← es, if_pos ⟨(by omega), (by rw [(fitB_1 c208)]; exact c218)⟩]) _ _ hP hD hS ls (lv_sub hl [3, 4, 5, 6, 7, 1, 0] rfl)
              exact lp123 (8 - 0 + 1) 0 (nI 0) (A 14) (by omega) (by omega) (by omega) rfl _ _ hP hD hS ls (lv_sub hl [5, 6, 9, 10, 2, 1, 0] rfl)
            · subst qww
              refine lv_iload hx hb dX12_fits_57 (lv_at hl 6 rfl) ?_
              refine lv_if_eq (tgt := 68) hx hb dX12_fits_59 (by decide) (fun c59 => absurd c59 (by decide)) (fun c59 => ?_)
              refine lv_iload hx hb dX12_fits_62 (lv_at hl 6 rfl) ?_
              refine lv_iconst (v := nI 2) hx hb dX12_fits_64 (by decide) ?_
              refine neN (tgt := 72) hx hb (by decide) (by decide) dX12_fits_65 (by decide) (fun c65 => absurd c65 (by decide)) (fun c65 => ?_)
              refine lv_iconst (v := nI 1) hx hb dX12_fits_68 (by decide) ?_
              refine lv_goto (tgt := 73) hx hb dX12_fits_69 (by decide) ?_
              refine lv_istore (lv' := [(7, .int (nI 1)), (6, .int (tkR A kr (nI i1) (nI m))), (0, .ref h), (1, .int (nI k)), (2, .int (nI kr)), (3, .int (nI i1)), (4, .int (nI m)), (5, .int (nI 2))]) hx hb dX12_fits_73 hl (by decide) rfl (fun ls hl => ?_)
              refine lv_iload hx hb dX12_fits_75 (lv_at hl 7 rfl) ?_
              refine lv_if_ne (tgt := 84) hx hb dX12_fits_77 (by decide) (fun c77 => ?_) (fun c77 => absurd c77 (by decide))
              refine lv_iload hx hb dX12_fits_84 (lv_at hl 7 rfl) ?_
              refine lv_iconst (v := nI 1) hx hb dX12_fits_86 (by decide) ?_
              refine neN (tgt := 95) hx hb (by decide) (by decide) dX12_fits_87 (by decide) (fun c87 => ?_) (fun c87 => absurd c87 (by decide))
              refine lv_iload hx hb dX12_fits_95 (lv_at hl 7 rfl) ?_
              refine lv_iconst (v := nI 2) hx hb dX12_fits_97 (by decide) ?_
              refine neN (tgt := 106) hx hb (by decide) (by decide) dX12_fits_98 (by decide) (fun c98 => absurd c98 (by decide)) (fun c98 => ?_)
              refine lv_bipush (v := nI 8) hx hb dX12_fits_101 (by decide) ?_
              refine lv_goto (tgt := 114) hx hb dX12_fits_103 (by decide) ?_
              refine lv_istore (lv' := [(8, .int (nI 8)), (7, .int (nI 1)), (6, .int (tkR A kr (nI i1) (nI m))), (0, .ref h), (1, .int (nI k)), (2, .int (nI kr)), (3, .int (nI i1)), (4, .int (nI m)), (5, .int (nI 2))]) hx hb dX12_fits_114 hl (by decide) rfl (fun ls hl => ?_)
              refine lv_iconst (v := nI 0) hx hb dX12_fits_116 (by decide) ?_
              refine lv_istore (lv' := [(9, .int (nI 0)), (8, .int (nI 8)), (7, .int (nI 1)), (6, .int (tkR A kr (nI i1) (nI m))), (0, .ref h), (1, .int (nI k)), (2, .int (nI kr)), (3, .int (nI i1)), (4, .int (nI m)), (5, .int (nI 2))]) hx hb dX12_fits_117 hl (by decide) rfl (fun ls hl => ?_)
              refine lv_iload hx hb dX12_fits_119 (lv_at hl 2 rfl) ?_
              refine lv_istore (lv' := [(10, .int (nI 1)), (9, .int (nI 0)), (8, .int (nI 8)), (7, .int (nI 1)), (6, .int (tkR A kr (nI i1) (nI m))), (0, .ref h), (1, .int (nI k)), (2, .int (nI kr)), (3, .int (nI i1)), (4, .int (nI m)), (5, .int (nI 2))]) hx hb dX12_fits_121 hl (by decide) rfl (fun ls hl => ?_)
              have lp123 : ∀ f_ : Nat, ∀ (x : Nat) (sx : Int32) (ft : Nat → Int32), (9 - x) < f_ → (x ≤ 9) → (1 ≤ x) → (sx = fitA (A 12) n k (tkF A kr (nI i1) (nI m)) m 2 1 x) → ∀ (H : Heap) (locs : List Loc), va_P D vwCl (mW cy h r (upd v 3 (tkV v A kr (nI i1) (nI m))) (va_up (va_up A 14 ft) 22 (tkF A kr (nI i1) (nI m)))) H → va_D A_ (mW cy h r (upd v 3 (tkV v A kr (nI i1) (nI m))) (va_up (va_up A 14 ft) 22 (tkF A kr (nI i1) (nI m)))) → va_S A_ s_.heap H locs → ∀ ls : Array Slot, lv_has ls 12 [(0, .ref h), (1, .int (nI k)), (4, .int (nI m)), (5, .int (nI 2)), (8, .int (nI 8)), (9, .int sx), (10, .int (nI x))] → W p_ l e_ (rmD 7) s_ m_ args_ below_ meth_ c_ H locs 0 0 Q_ (F0 m_ 123 ls []) := by
                intro f_
                induction f_ with
                | zero => intro x sx ft hm_; exact absurd hm_ (by omega)
                | succ f_ ih123 =>
                  intro x sx ft hm_ hv hl0 es H locs hP hD hS ls hl
                  refine lv_iload hx hb dX12_fits_123 (lv_at hl 6 rfl) ?_
                  refine lv_iload hx hb dX12_fits_125 (lv_at hl 4 rfl) ?_
                  refine gtN (tgt := 252) hx hb (by omega) (by decide) dX12_fits_127 (by decide) (fun c127 => ?_) (fun c127 => ?_)
                  · refine lv_aload_n hx hb dX12_fits_252 rfl (lv_at hl 0 rfl) ?_
                    refine lv_iload hx hb dX12_fits_253 (lv_at hl 5 rfl) ?_
                    refine call_i (wr := []) (ws' := (fun _ : Unit => mW cy h r (upd v 3 (nI 0)) (va_up (va_up A 14 ft) 22 (tkF A kr (nI i1) (nI m))))) (va_runV (As := [.int sx]) (rest := []) CF (k_X12_done l D cy _ h r (upd v 3 (tkV v A kr (nI i1) (nI m))) (va_up (va_up A 14 ft) 22 (tkF A kr (nI i1) (nI m))) sx ) (cwV 1 hts gX12_fits_X12_done rfl rfl rfl (by decide +kernel) ⟨Nat.le_of_ble_eq_true rfl, Nat.le_of_ble_eq_true rfl⟩) (pre_V hKN hP hD [0, 1, 2, 3, 4, 5, 6, 7, 8, 9, 10, 11, 12, 13, 14] rfl (by decide) 0 11 rfl rfl) rfl rfl hl.1 rfl (lv_room (Nat.le_of_ble_eq_true rfl)) dX12_fits_255 ⟨Nat.le_of_ble_eq_true rfl, Nat.le_of_ble_eq_true rfl⟩) hS hA hP hD [0, 1, 2, 3, 4, 5, 6, 7, 8, 9, 10, 11, 12, 13, 14] [] [0, 1, 2, 3, 4, 5, 6, 7, 8, 9, 10, 11, 12, 13, 14] rfl rfl (by decide) (by decide) (fun _ => rfl) (by decide) (fun r35 u34 H locs hw36 hP hD hS => ?_)
                    replace hw36 := hw36.symm; subst hw36
                    exact ret _ ((upd v 3 (nI 0)), (va_up (va_up A 14 ft) 22 (tkF A kr (nI i1) (nI m)))) _ _ _ _ dX12_fits_258 ⟨(by have hx9 : x = 9 := (by omega); rw [mFit, if_neg (fun h => h.elim (fun h => h c5) (fun h => h.elim (fun h => h c12) (fun h => h.elim (fun h => h c23) (fun h => h c33)))), show cl (nI k) = k from e_k, show cl (nI kr) = kr from e_kr, show cl (nI m) = m from e_m, show cl (nI i1) = i1 from e_i1, if_neg (fun h => h c51), es, hx9]; exact fitA_congr (fun j hj => by rw [etk, tkN_at _ _ _ _ _ hj]) _), (by rw [mFit, if_neg (fun h => h.elim (fun h => h c5) (fun h => h.elim (fun h => h c12) (fun h => h.elim (fun h => h c23) (fun h => h c33)))), show cl (nI k) = k from e_k, show cl (nI kr) = kr from e_kr, show cl (nI m) = m from e_m, if_neg (fun h => h c51)]), (fun j h1 h2 h3 h4 => by simp [va_up, h1, h2, h3, h4])⟩ hP hD hS
                  · refine lv_aload_n hx hb dX12_fits_130 rfl (lv_at hl 0 rfl) ?_
                    refine call_v (wr := []) (ws' := (fun _ : Unit => mW cy h r (upd v 3 (tkV v A kr (nI i1) (nI m))) (va_up (va_up A 22 (tkF A kr (nI i1) (nI m))) 14 (A 12)))) (va_runV (As := []) (rest := []) CF (k_X12_begin l D cy _ h r (upd v 3 (tkV v A kr (nI i1) (nI m))) (va_up (va_up A 14 ft) 22 (tkF A kr (nI i1) (nI m))) ) (cwV 0 hts gX12_fits_X12_begin rfl rfl rfl (by decide +kernel) ⟨Nat.le_of_ble_eq_true rfl, Nat.le_of_ble_eq_true rfl⟩) (pre_V hKN hP hD [0, 1, 2, 3, 4, 5, 6, 7, 8, 9, 10, 11, 12, 13, 14] rfl (by decide) 0 11 rfl rfl) rfl rfl hl.1 rfl (lv_room (Nat.le_of_ble_eq_true rfl)) dX12_fits_131 ⟨Nat.le_of_ble_eq_true rfl, Nat.le_of_ble_eq_true rfl⟩) hS hA hP hD [0, 1, 2, 3, 4, 5, 6, 7, 8, 9, 10, 11, 12, 13, 14] [] [0, 1, 2, 3, 4, 5, 6, 7, 8, 9, 10, 11, 12, 13, 14] rfl rfl (by decide) (by decide) (fun _ => rfl) (by decide) (fun u37 H locs hw39 hP hD hS => ?_)
                    refine lv_iload hx hb dX12_fits_134 (lv_at hl 3 rfl) ?_
                    refine lv_iconst (v := nI 3) hx hb dX12_fits_136 (by decide) ?_
                    refine neN (tgt := 167) hx hb (by decide) (by decide) dX12_fits_137 (by decide) (fun c137 => ?_) (fun c137 => absurd c137 (by decide))
                    refine lv_aload_n hx hb dX12_fits_167 rfl (lv_at hl 0 rfl) ?_
                    refine va_get (ci := 11) (v := .ref (r 14)) (C := RX12) (T := TX12) (N := 24) hx hb hts hinX12 hown hK hP 0 rfl rfl 14 (by decide) hf28 (fun _ h9 => h9) rfl dX12_fits_168 ?_
                    refine lv_iload hx hb dX12_fits_171 (lv_at hl 3 rfl) ?_
                    refine lv_if_ne (tgt := 182) hx hb dX12_fits_173 (by decide) (fun c173 => ?_) (fun c173 => absurd c173 (by decide))
                    refine lv_iload hx hb dX12_fits_182 (lv_at hl 3 rfl) ?_
                    refine lv_iconst (v := nI 1) hx hb dX12_fits_184 (by decide) ?_
                    refine neN (tgt := 195) hx hb (by decide) (by decide) dX12_fits_185 (by decide) (fun c185 => ?_) (fun c185 => absurd c185 (by decide))
                    refine lv_iconst (v := nI 2) hx hb dX12_fits_195 (by decide) ?_
                    refine lv_iload hx hb dX12_fits_196 (lv_at hl 6 rfl) ?_
                    refine stN (f := (A 12)) (ws' := mW cy h r (upd v 3 (tkV v A kr (nI i1) (nI m))) (va_up (va_up A 22 (tkF A kr (nI i1) (nI m))) 14 (upd (A 12) 2 (nI x)))) hx hb hK hP hD hS 7 rfl (j := 2) (by omega) (by decide) dX12_fits_198 rfl (fun H locs hP hD hS => ?_)
                    refine lv_iload hx hb dX12_fits_199 (lv_at hl 3 rfl) ?_
                    refine lv_iconst (v := nI 1) hx hb dX12_fits_201 (by decide) ?_
                    refine neN (tgt := 211) hx hb (by decide) (by decide) dX12_fits_202 (by decide) (fun c202 => ?_) (fun c202 => absurd c202 (by decide))
                    have hCf : Cat (upd (A 12) 2 (nI x)) n := hC.hold _
                    refine lv_aload_n hx hb dX12_fits_211 rfl (lv_at hl 0 rfl) ?_
                    refine lv_iload_n hx hb dX12_fits_212 rfl (lv_at hl 1 rfl) ?_
                    refine lv_iload hx hb dX12_fits_213 (lv_at hl 2 rfl) ?_
                    refine call_i (wr := []) (ws' := (fun u40 : (Nat → Int32) => mW cy h r (upd v 3 (tkV v A kr (nI i1) (nI m))) (va_up (va_up A 22 (tkF A kr (nI i1) (nI m))) 14 u40))) (va_runV (As := [.int (nI k), .int (nI m)]) (rest := []) CF (k_X12_isSo l D cy _ h r (upd v 3 (tkV v A kr (nI i1) (nI m))) (va_up (va_up A 22 (tkF A kr (nI i1) (nI m))) 14 (upd (A 12) 2 (nI x))) n k m hCf (by first | assumption | omega | decide) (by first | assumption | omega | decide)) (cwV 2 hts gX12_fits_X12_isSo rfl rfl rfl (by decide +kernel) ⟨Nat.le_of_ble_eq_true rfl, Nat.le_of_ble_eq_true rfl⟩) (pre_V hKN hP hD [0, 1, 2, 3, 4, 5, 6, 7, 8, 9, 10, 11, 12, 13, 14] rfl (by decide) 0 11 rfl rfl) rfl rfl hl.1 rfl (lv_room (Nat.le_of_ble_eq_true rfl)) dX12_fits_215 ⟨Nat.le_of_ble_eq_true rfl, Nat.le_of_ble_eq_true rfl⟩) hS hA hP hD [0, 1, 2, 3, 4, 5, 6, 7, 8, 9, 10, 11, 12, 13, 14] [] [0, 1, 2, 3, 4, 5, 6, 7, 8, 9, 10, 11, 12, 13, 14] rfl rfl (by decide) (by decide) (fun _ => rfl) (by decide) (fun r41 u40 H locs hw42 hP hD hS => ?_)
                    replace hw42 := hw42.symm; subst hw42
                    have hP : va_P D vwCl (mW cy h r (upd v 3 (tkV v A kr (nI i1) (nI m))) (va_up (va_up A 22 (tkF A kr (nI i1) (nI m))) 14 u40)) H := hP
                    have hD : va_D A_ (mW cy h r (upd v 3 (tkV v A kr (nI i1) (nI m))) (va_up (va_up A 22 (tkF A kr (nI i1) (nI m))) 14 u40)) := hD
                    refine ifeqB (tgt := 225) hx hb dX12_fits_218 (by decide) (fun c218 => ?_) (fun c218 => ?_)
                    · replace c218 : ¬ (soB ((upd (A 12) 2 (nI x))) n k ((tkF A kr (nI i1) (nI m))) m 0 = true) := c218
                      refine lv_iconst (v := nI 0) hx hb dX12_fits_225 (by decide) ?_
                      refine lv_istore (lv' := [(11, .int (nI 0)), (0, .ref h), (1, .int (nI k)), (4, .int (nI m)), (5, .int (nI 2)), (8, .int (nI 8)), (9, .int sx), (10, .int (nI x))]) hx hb dX12_fits_226 hl (by decide) rfl (fun ls hl => ?_)
                      refine lv_iload hx hb dX12_fits_228 (lv_at hl 6 rfl) ?_
                      refine lv_iload hx hb dX12_fits_230 (lv_at hl 0 rfl) ?_
                      refine lv_if_eq (tgt := 242) hx hb dX12_fits_232 (by decide) (fun c232 => ?_) (fun c232 => absurd c232 (by decide))
                      refine lv_iconst (v := nI 0) hx hb dX12_fits_242 (by decide) ?_
                      refine lv_ior hx hb dX12_fits_243 ?_
                      refine lv_istore (lv' := [(9, .int (sx ||| nI 0)), (11, .int (nI 0)), (0, .ref h), (1, .int (nI k)), (4, .int (nI m)), (5, .int (nI 2)), (8, .int (nI 8)), (10, .int (nI x))]) hx hb dX12_fits_244 hl (by decide) rfl (fun ls hl => ?_)
                      refine lv_iinc (v := nI (x + 1)) (lv' := [(10, .int (nI (x + 1))), (9, .int (sx ||| nI 0)), (11, .int (nI 0)), (0, .ref h), (1, .int (nI k)), (4, .int (nI m)), (5, .int (nI 2)), (8, .int (nI 8))]) hx hb dX12_fits_246 hl (k := 7) rfl (nI_1 _) (by decide) rfl (fun ls hl => ?_)
                      refine lv_goto (tgt := 123) hx hb dX12_fits_249 (by decide) ?_
                      exact ih123 (x + 1) (sx ||| nI 0) u40 (by omega) (by omega) (by omega) (by rw [fitA, ← es, if_neg (fun q => c218 (by rw [← fitB_2]; exact q.2))]) _ _ hP hD hS ls (lv_sub hl [3, 4, 5, 6, 7, 1, 0] rfl)
                    · replace c218 : (soB ((upd (A 12) 2 (nI x))) n k ((tkF A kr (nI i1) (nI m))) m 0 = true) := c218
                      refine lv_iconst (v := nI 1) hx hb dX12_fits_221 (by decide) ?_
                      refine lv_goto (tgt := 226) hx hb dX12_fits_222 (by decide) ?_
                      refine lv_istore (lv' := [(11, .int (nI 1)), (0, .ref h), (1, .int (nI k)), (4, .int (nI m)), (5, .int (nI 2)), (8, .int (nI 8)), (9, .int sx), (10, .int (nI x))]) hx hb dX12_fits_226 hl (by decide) rfl (fun ls hl => ?_)
                      refine lv_iload hx hb dX12_fits_228 (lv_at hl 6 rfl) ?_
                      refine lv_iload hx hb dX12_fits_230 (lv_at hl 0 rfl) ?_
                      refine lv_if_eq (tgt := 242) hx hb dX12_fits_232 (by decide) (fun c232 => absurd c232 (by decide)) (fun c232 => ?_)
                      refine lv_iconst (v := nI 1) hx hb dX12_fits_235 (by decide) ?_
                      refine lv_iload hx hb dX12_fits_236 (lv_at hl 7 rfl) ?_
                      refine lv_ishl hx hb dX12_fits_238 ?_
                      refine lv_goto (tgt := 243) hx hb dX12_fits_239 (by decide) ?_
                      refine lv_ior hx hb dX12_fits_243 ?_
                      refine lv_istore (lv' := [(9, .int (sx ||| (nI 1 <<< (nI x &&& 31)))), (11, .int (nI 1)), (0, .ref h), (1, .int (nI k)), (4, .int (nI m)), (5, .int (nI 2)), (8, .int (nI 8)), (10, .int (nI x))]) hx hb dX12_fits_244 hl (by decide) rfl (fun ls hl => ?_)
                      refine lv_iinc (v := nI (x + 1)) (lv' := [(10, .int (nI (x + 1))), (9, .int (sx ||| (nI 1 <<< (nI x &&& 31)))), (11, .int (nI 1)), (0, .ref h), (1, .int (nI k)), (4, .int (nI m)), (5, .int (nI 2)), (8, .int (nI 8))]) hx hb dX12_fits_246 hl (k := 7) rfl (nI_1 _) (by decide) rfl (fun ls hl => ?_)
                      refine lv_goto (tgt := 123) hx hb dX12_fits_249 (by decide) ?_
                      exact ih123 (x + 1) (sx ||| (nI 1 <<< (nI x &&& 31))) u40 (by omega) (by omega) (by omega) (by rw [fitA, ← es, if_pos ⟨(by omega), (by rw [fitB_2]; exact c218)⟩]) _ _ hP hD hS ls (lv_sub hl [3, 4, 5, 6, 7, 1, 0] rfl)
              exact lp123 (9 - 1 + 1) 1 (nI 0) (A 14) (by omega) (by omega) (by omega) (by rw [fitA, fitA, if_neg (fun q => absurd q.1 (by decide))]; rfl) _ _ hP hD hS ls (lv_sub hl [5, 6, 9, 10, 2, 1, 0] rfl)
            · subst qww
              refine lv_iload hx hb dX12_fits_57 (lv_at hl 6 rfl) ?_
              refine lv_if_eq (tgt := 68) hx hb dX12_fits_59 (by decide) (fun c59 => absurd c59 (by decide)) (fun c59 => ?_)
              refine lv_iload hx hb dX12_fits_62 (lv_at hl 6 rfl) ?_
              refine lv_iconst (v := nI 2) hx hb dX12_fits_64 (by decide) ?_
              refine neN (tgt := 72) hx hb (by decide) (by decide) dX12_fits_65 (by decide) (fun c65 => ?_) (fun c65 => absurd c65 (by decide))
              refine lv_iconst (v := nI 0) hx hb dX12_fits_72 (by decide) ?_
              refine lv_istore (lv' := [(7, .int (nI 0)), (6, .int (tkR A kr (nI i1) (nI m))), (0, .ref h), (1, .int (nI k)), (2, .int (nI kr)), (3, .int (nI i1)), (4, .int (nI m)), (5, .int (nI 3))]) hx hb dX12_fits_73 hl (by decide) rfl (fun ls hl => ?_)
              refine lv_iload hx hb dX12_fits_75 (lv_at hl 7 rfl) ?_
              refine lv_if_ne (tgt := 84) hx hb dX12_fits_77 (by decide) (fun c77 => ?_) (fun c77 => absurd c77 (by decide))
              refine lv_iload hx hb dX12_fits_84 (lv_at hl 7 rfl) ?_
              refine lv_iconst (v := nI 1) hx hb dX12_fits_86 (by decide) ?_
              refine neN (tgt := 95) hx hb (by decide) (by decide) dX12_fits_87 (by decide) (fun c87 => ?_) (fun c87 => absurd c87 (by decide))
              refine lv_iload hx hb dX12_fits_95 (lv_at hl 7 rfl) ?_
              refine lv_iconst (v := nI 2) hx hb dX12_fits_97 (by decide) ?_
              refine neN (tgt := 106) hx hb (by decide) (by decide) dX12_fits_98 (by decide) (fun c98 => ?_) (fun c98 => absurd c98 (by decide))
              refine lv_aload_n hx hb dX12_fits_106 rfl (lv_at hl 2 rfl) ?_
              refine va_get (ci := 11) (v := .ref (r 12)) (C := RX12) (T := TX12) (N := 24) hx hb hts hinX12 hown hK hP 0 rfl rfl 12 (by decide) hf22 (fun _ h9 => h9) rfl dX12_fits_107 ?_
              refine lv_iconst (v := nI 1) hx hb dX12_fits_110 (by decide) ?_
              refine ldN (f := (A 12)) hx hb hK hP 5 rfl (j := 1) (by omega) (by decide) dX12_fits_111 ?_
              refine top_i hd ?_
              refine lv_iconst (v := nI 1) hx hb dX12_fits_112 (by decide) ?_
              refine suN (k := dr - 1) hx hb (by omega) dX12_fits_113 ?_
              refine lv_istore (lv' := [(8, .int (nI (dr - 1))), (7, .int (nI 0)), (6, .int (tkR A kr (nI i1) (nI m))), (0, .ref h), (1, .int (nI k)), (2, .int (nI kr)), (3, .int (nI i1)), (4, .int (nI m)), (5, .int (nI 3))]) hx hb dX12_fits_114 hl (by decide) rfl (fun ls hl => ?_)
              refine lv_iconst (v := nI 0) hx hb dX12_fits_116 (by decide) ?_
              refine lv_istore (lv' := [(9, .int (nI 0)), (8, .int (nI (dr - 1))), (7, .int (nI 0)), (6, .int (tkR A kr (nI i1) (nI m))), (0, .ref h), (1, .int (nI k)), (2, .int (nI kr)), (3, .int (nI i1)), (4, .int (nI m)), (5, .int (nI 3))]) hx hb dX12_fits_117 hl (by decide) rfl (fun ls hl => ?_)
              refine lv_iload hx hb dX12_fits_119 (lv_at hl 2 rfl) ?_
              refine lv_istore (lv' := [(10, .int (nI 0)), (9, .int (nI 0)), (8, .int (nI (dr - 1))), (7, .int (nI 0)), (6, .int (tkR A kr (nI i1) (nI m))), (0, .ref h), (1, .int (nI k)), (2, .int (nI kr)), (3, .int (nI i1)), (4, .int (nI m)), (5, .int (nI 3))]) hx hb dX12_fits_121 hl (by decide) rfl (fun ls hl => ?_)
              have lp123 : ∀ f_ : Nat, ∀ (x : Nat) (sx : Int32) (ft : Nat → Int32), (dr - x) < f_ → (x ≤ dr) → (0 ≤ x) → (sx = fitA (A 12) n k (tkF A kr (nI i1) (nI m)) m 3 0 x) → ∀ (H : Heap) (locs : List Loc), va_P D vwCl (mW cy h r (upd v 3 (tkV v A kr (nI i1) (nI m))) (va_up (va_up A 14 ft) 22 (tkF A kr (nI i1) (nI m)))) H → va_D A_ (mW cy h r (upd v 3 (tkV v A kr (nI i1) (nI m))) (va_up (va_up A 14 ft) 22 (tkF A kr (nI i1) (nI m)))) → va_S A_ s_.heap H locs → ∀ ls : Array Slot, lv_has ls 12 [(0, .ref h), (1, .int (nI k)), (4, .int (nI m)), (5, .int (nI 3)), (8, .int (nI (dr - 1))), (9, .int sx), (10, .int (nI x))] → W p_ l e_ (rmD 7) s_ m_ args_ below_ meth_ c_ H locs 0 0 Q_ (F0 m_ 123 ls []) := by
                intro f_
                induction f_ with
                | zero => intro x sx ft hm_; exact absurd hm_ (by omega)
                | succ f_ ih123 =>
                  intro x sx ft hm_ hv hl0 es H locs hP hD hS ls hl
                  refine lv_iload hx hb dX12_fits_123 (lv_at hl 6 rfl) ?_
                  refine lv_iload hx hb dX12_fits_125 (lv_at hl 4 rfl) ?_
                  refine gtN (tgt := 252) hx hb (by omega) (by omega) dX12_fits_127 (by decide) (fun c127 => ?_) (fun c127 => ?_)
                  · refine lv_aload_n hx hb dX12_fits_252 rfl (lv_at hl 0 rfl) ?_
                    refine lv_iload hx hb dX12_fits_253 (lv_at hl 5 rfl) ?_
                    refine call_i (wr := []) (ws' := (fun _ : Unit => mW cy h r (upd v 3 (nI 0)) (va_up (va_up A 14 ft) 22 (tkF A kr (nI i1) (nI m))))) (va_runV (As := [.int sx]) (rest := []) CF (k_X12_done l D cy _ h r (upd v 3 (tkV v A kr (nI i1) (nI m))) (va_up (va_up A 14 ft) 22 (tkF A kr (nI i1) (nI m))) sx ) (cwV 1 hts gX12_fits_X12_done rfl rfl rfl (by decide +kernel) ⟨Nat.le_of_ble_eq_true rfl, Nat.le_of_ble_eq_true rfl⟩) (pre_V hKN hP hD [0, 1, 2, 3, 4, 5, 6, 7, 8, 9, 10, 11, 12, 13, 14] rfl (by decide) 0 11 rfl rfl) rfl rfl hl.1 rfl (lv_room (Nat.le_of_ble_eq_true rfl)) dX12_fits_255 ⟨Nat.le_of_ble_eq_true rfl, Nat.le_of_ble_eq_true rfl⟩) hS hA hP hD [0, 1, 2, 3, 4, 5, 6, 7, 8, 9, 10, 11, 12, 13, 14] [] [0, 1, 2, 3, 4, 5, 6, 7, 8, 9, 10, 11, 12, 13, 14] rfl rfl (by decide) (by decide) (fun _ => rfl) (by decide) (fun r44 u43 H locs hw45 hP hD hS => ?_)
                    replace hw45 := hw45.symm; subst hw45
                    exact ret _ ((upd v 3 (nI 0)), (va_up (va_up A 14 ft) 22 (tkF A kr (nI i1) (nI m)))) _ _ _ _ dX12_fits_258 ⟨(by have hx9 : x = dr := (by omega); rw [mFit, if_neg (fun h => h.elim (fun h => h c5) (fun h => h.elim (fun h => h c12) (fun h => h.elim (fun h => h c23) (fun h => h c33)))), show cl (nI k) = k from e_k, show cl (nI kr) = kr from e_kr, show cl (nI m) = m from e_m, show cl (nI i1) = i1 from e_i1, if_neg (fun h => h c51), es, hx9]; exact fitA_congr (fun j hj => by rw [etk, tkN_at _ _ _ _ _ hj]) _), (by rw [mFit, if_neg (fun h => h.elim (fun h => h c5) (fun h => h.elim (fun h => h c12) (fun h => h.elim (fun h => h c23) (fun h => h c33)))), show cl (nI k) = k from e_k, show cl (nI kr) = kr from e_kr, show cl (nI m) = m from e_m, if_neg (fun h => h c51)]), (fun j h1 h2 h3 h4 => by simp [va_up, h1, h2, h3, h4])⟩ hP hD hS
                  · refine lv_aload_n hx hb dX12_fits_130 rfl (lv_at hl 0 rfl) ?_
                    refine call_v (wr := []) (ws' := (fun _ : Unit => mW cy h r (upd v 3 (tkV v A kr (nI i1) (nI m))) (va_up (va_up A 22 (tkF A kr (nI i1) (nI m))) 14 (A 12)))) (va_runV (As := []) (rest := []) CF (k_X12_begin l D cy _ h r (upd v 3 (tkV v A kr (nI i1) (nI m))) (va_up (va_up A 14 ft) 22 (tkF A kr (nI i1) (nI m))) ) (cwV 0 hts gX12_fits_X12_begin rfl rfl rfl (by decide +kernel) ⟨Nat.le_of_ble_eq_true rfl, Nat.le_of_ble_eq_true rfl⟩) (pre_V hKN hP hD [0, 1, 2, 3, 4, 5, 6, 7, 8, 9, 10, 11, 12, 13, 14] rfl (by decide) 0 11 rfl rfl) rfl rfl hl.1 rfl (lv_room (Nat.le_of_ble_eq_true rfl)) dX12_fits_131 ⟨Nat.le_of_ble_eq_true rfl, Nat.le_of_ble_eq_true rfl⟩) hS hA hP hD [0, 1, 2, 3, 4, 5, 6, 7, 8, 9, 10, 11, 12, 13, 14] [] [0, 1, 2, 3, 4, 5, 6, 7, 8, 9, 10, 11, 12, 13, 14] rfl rfl (by decide) (by decide) (fun _ => rfl) (by decide) (fun u46 H locs hw48 hP hD hS => ?_)
                    refine lv_iload hx hb dX12_fits_134 (lv_at hl 3 rfl) ?_
                    refine lv_iconst (v := nI 3) hx hb dX12_fits_136 (by decide) ?_
                    refine neN (tgt := 167) hx hb (by decide) (by decide) dX12_fits_137 (by decide) (fun c137 => absurd c137 (by decide)) (fun c137 => ?_)
                    refine lv_iload hx hb dX12_fits_140 (lv_at hl 6 rfl) ?_
                    refine lv_aload_n hx hb dX12_fits_142 rfl (lv_at hl 0 rfl) ?_
                    refine va_get (ci := 11) (v := .ref (r 12)) (C := RX12) (T := TX12) (N := 24) hx hb hts hinX12 hown hK hP 0 rfl rfl 12 (by decide) hf22 (fun _ h9 => h9) rfl dX12_fits_143 ?_
                    refine lv_bipush (v := nI 21) hx hb dX12_fits_146 (by decide) ?_
                    refine lv_iload_n hx hb dX12_fits_148 rfl (lv_at hl 1 rfl) ?_
                    refine adN (k := 21 + k) hx hb rfl dX12_fits_149 ?_
                    refine ldN (f := (A 12)) hx hb hK hP 5 rfl (j := 21 + k) (by omega) (by decide) dX12_fits_150 ?_
                    refine lv_icmp_eq (tgt := 199) hx hb dX12_fits_151 (by decide) (fun c151 => ?_) (fun c151 => ?_)
                    · refine lv_iload hx hb dX12_fits_199 (lv_at hl 3 rfl) ?_
                      refine lv_iconst (v := nI 1) hx hb dX12_fits_201 (by decide) ?_
                      refine neN (tgt := 211) hx hb (by decide) (by decide) dX12_fits_202 (by decide) (fun c202 => ?_) (fun c202 => absurd c202 (by decide))
                      have hCf : Cat ((A 12)) n := hC
                      refine lv_aload_n hx hb dX12_fits_211 rfl (lv_at hl 0 rfl) ?_
                      refine lv_iload_n hx hb dX12_fits_212 rfl (lv_at hl 1 rfl) ?_
                      refine lv_iload hx hb dX12_fits_213 (lv_at hl 2 rfl) ?_
                      refine call_i (wr := []) (ws' := (fun u49 : (Nat → Int32) => mW cy h r (upd v 3 (tkV v A kr (nI i1) (nI m))) (va_up (va_up A 22 (tkF A kr (nI i1) (nI m))) 14 u49))) (va_runV (As := [.int (nI k), .int (nI m)]) (rest := []) CF (k_X12_isSo l D cy _ h r (upd v 3 (tkV v A kr (nI i1) (nI m))) (va_up (va_up A 22 (tkF A kr (nI i1) (nI m))) 14 (A 12)) n k m hCf (by first | assumption | omega | decide) (by first | assumption | omega | decide)) (cwV 2 hts gX12_fits_X12_isSo rfl rfl rfl (by decide +kernel) ⟨Nat.le_of_ble_eq_true rfl, Nat.le_of_ble_eq_true rfl⟩) (pre_V hKN hP hD [0, 1, 2, 3, 4, 5, 6, 7, 8, 9, 10, 11, 12, 13, 14] rfl (by decide) 0 11 rfl rfl) rfl rfl hl.1 rfl (lv_room (Nat.le_of_ble_eq_true rfl)) dX12_fits_215 ⟨Nat.le_of_ble_eq_true rfl, Nat.le_of_ble_eq_true rfl⟩) hS hA hP hD [0, 1, 2, 3, 4, 5, 6, 7, 8, 9, 10, 11, 12, 13, 14] [] [0, 1, 2, 3, 4, 5, 6, 7, 8, 9, 10, 11, 12, 13, 14] rfl rfl (by decide) (by decide) (fun _ => rfl) (by decide) (fun r50 u49 H locs hw51 hP hD hS => ?_)
                      replace hw51 := hw51.symm; subst hw51
                      have hP : va_P D vwCl (mW cy h r (upd v 3 (tkV v A kr (nI i1) (nI m))) (va_up (va_up A 22 (tkF A kr (nI i1) (nI m))) 14 u49)) H := hP
                      have hD : va_D A_ (mW cy h r (upd v 3 (tkV v A kr (nI i1) (nI m))) (va_up (va_up A 22 (tkF A kr (nI i1) (nI m))) 14 u49)) := hD
                      refine ifeqB (tgt := 225) hx hb dX12_fits_218 (by decide) (fun c218 => ?_) (fun c218 => ?_)
                      · replace c218 : ¬ (soB ((A 12)) n k ((tkF A kr (nI i1) (nI m))) m 0 = true) := c218
                        refine lv_iconst (v := nI 0) hx hb dX12_fits_225 (by decide) ?_
                        refine lv_istore (lv' := [(11, .int (nI 0)), (0, .ref h), (1, .int (nI k)), (4, .int (nI m)), (5, .int (nI 3)), (8, .int (nI (dr - 1))), (9, .int sx), (10, .int (nI x))]) hx hb dX12_fits_226 hl (by decide) rfl (fun ls hl => ?_)
                        refine lv_iload hx hb dX12_fits_228 (lv_at hl 6 rfl) ?_
                        refine lv_iload hx hb dX12_fits_230 (lv_at hl 0 rfl) ?_
                        refine lv_if_eq (tgt := 242) hx hb dX12_fits_232 (by decide) (fun c232 => ?_) (fun c232 => absurd c232 (by decide))
                        refine lv_iconst (v := nI 0) hx hb dX12_fits_242 (by decide) ?_
                        refine lv_ior hx hb dX12_fits_243 ?_
                        refine lv_istore (lv' := [(9, .int (sx ||| nI 0)), (11, .int (nI 0)), (0, .ref h), (1, .int (nI k)), (4, .int (nI m)), (5, .int (nI 3)), (8, .int (nI (dr - 1))), (10, .int (nI x))]) hx hb dX12_fits_244 hl (by decide) rfl (fun ls hl => ?_)
                        refine lv_iinc (v := nI (x + 1)) (lv' := [(10, .int (nI (x + 1))), (9, .int (sx ||| nI 0)), (11, .int (nI 0)), (0, .ref h), (1, .int (nI k)), (4, .int (nI m)), (5, .int (nI 3)), (8, .int (nI (dr - 1)))]) hx hb dX12_fits_246 hl (k := 7) rfl (nI_1 _) (by decide) rfl (fun ls hl => ?_)
                        refine lv_goto (tgt := 123) hx hb dX12_fits_249 (by decide) ?_
                        exact ih123 (x + 1) (sx ||| nI 0) u49 (by omega) (by omega) (by omega) (by rw [fitA, ← es, if_neg (fun q => c218 (by rw [← (fitB_3a c151)]; exact q.2))]) _ _ hP hD hS ls (lv_sub hl [3, 4, 5, 6, 7, 1, 0] rfl)
                      · replace c218 : (soB ((A 12)) n k ((tkF A kr (nI i1) (nI m))) m 0 = true) := c218
                        refine lv_iconst (v := nI 1) hx hb dX12_fits_221 (by decide) ?_
                        refine lv_goto (tgt := 226) hx hb dX12_fits_222 (by decide) ?_
                        refine lv_istore (lv' := [(11, .int (nI 1)), (0, .ref h), (1, .int (nI k)), (4, .int (nI m)), (5, .int (nI 3)), (8, .int (nI (dr - 1))), (9, .int sx), (10, .int (nI x))]) hx hb dX12_fits_226 hl (by decide) rfl (fun ls hl => ?_)
                        refine lv_iload hx hb dX12_fits_228 (lv_at hl 6 rfl) ?_
                        refine lv_iload hx hb dX12_fits_230 (lv_at hl 0 rfl) ?_
                        refine lv_if_eq (tgt := 242) hx hb dX12_fits_232 (by decide) (fun c232 => absurd c232 (by decide)) (fun c232 => ?_)
                        refine lv_iconst (v := nI 1) hx hb dX12_fits_235 (by decide) ?_
                        refine lv_iload hx hb dX12_fits_236 (lv_at hl 7 rfl) ?_
                        refine lv_ishl hx hb dX12_fits_238 ?_
                        refine lv_goto (tgt := 243) hx hb dX12_fits_239 (by decide) ?_
                        refine lv_ior hx hb dX12_fits_243 ?_
                        refine lv_istore (lv' := [(9, .int (sx ||| (nI 1 <<< (nI x &&& 31)))), (11, .int (nI 1)), (0, .ref h), (1, .int (nI k)), (4, .int (nI m)), (5, .int (nI 3)), (8, .int (nI (dr - 1))), (10, .int (nI x))]) hx hb dX12_fits_244 hl (by decide) rfl (fun ls hl => ?_)
                        refine lv_iinc (v := nI (x + 1)) (lv' := [(10, .int (nI (x + 1))), (9, .int (sx ||| (nI 1 <<< (nI x &&& 31)))), (11, .int (nI 1)), (0, .ref h), (1, .int (nI k)), (4, .int (nI m)), (5, .int (nI 3)), (8, .int (nI (dr - 1)))]) hx hb dX12_fits_246 hl (k := 7) rfl (nI_1 _) (by decide) rfl (fun ls hl => ?_)
                        refine lv_goto (tgt := 123) hx hb dX12_fits_249 (by decide) ?_
                        exact ih123 (x + 1) (sx ||| (nI 1 <<< (nI x &&& 31))) u49 (by omega) (by omega) (by omega) (by rw [fitA, ← es, if_pos ⟨(by omega), (by rw [(fitB_3a c151)]; exact c218)⟩]) _ _ hP hD hS ls (lv_sub hl [3, 4, 5, 6, 7, 1, 0] rfl)
                    · refine lv_aload_n hx hb dX12_fits_154 rfl (lv_at hl 0 rfl) ?_
                      refine va_get (ci := 11) (v := .ref (r 14)) (C := RX12) (T := TX12) (N := 24) hx hb hts hinX12 hown hK hP 0 rfl rfl 14 (by decide) hf28 (fun _ h9 => h9) rfl dX12_fits_155 ?_
                      refine lv_iload_n hx hb dX12_fits_158 rfl (lv_at hl 1 rfl) ?_
                      refine lv_iload hx hb dX12_fits_159 (lv_at hl 6 rfl) ?_
                      refine call_v (wr := [(h, .inr (11, mO r (upd v 3 (tkV v A kr (nI i1) (nI m))))), ((r 0), wInt (cy 0) 8 (A 0)), ((r 1), wInt (cy 0) 8 (A 1)), ((r 2), wInt (cy 0) 320 (A 2)), ((r 5), wInt (cy 0) 60 (A 5)), ((r 12), wInt (cy 0) 37 (A 12)), ((r 13), wInt (cy 0) 37 (A 13)), ((r 15), wInt (cy 0) 37 (A 15)), ((r 16), wInt (cy 0) 74 (A 16)), ((r 17), wInt (cy 1) 2 (A 17)), ((r 18), wInt (cy 0) 888 (A 18)), ((r 20), wInt (cy 0) 16 (A 20)), ((r 22), wInt (cy 0) 16 (tkF A kr (nI i1) (nI m))), ((r 23), wInt (cy 0) 24 (A 23))]) (ws' := (fun u52 : (Nat → Int32) => mW cy h r (upd v 3 (tkV v A kr (nI i1) (nI m))) (va_up (va_up A 22 (tkF A kr (nI i1) (nI m))) 14 u52))) (va_runS (As := [.ref (r 14), .int (nI k), .int (nI x)]) (rest := []) CF (k_X12_goesBehind l D cy _ (r 14) (A 12) k (nI x) n (by first | assumption | omega | decide) hC.1 (by first | assumption | omega | decide)) (va_cwS 3 hts gX12_fits_X12_goesBehind rfl rfl rfl (by decide +kernel) ⟨Nat.le_of_ble_eq_true rfl, Nat.le_of_ble_eq_true rfl⟩) (pre_S hKN hP hD [7] rfl (by decide)) rfl rfl hl.1 rfl (lv_room (Nat.le_of_ble_eq_true rfl)) dX12_fits_161 ⟨Nat.le_of_ble_eq_true rfl, Nat.le_of_ble_eq_true rfl⟩) hS hA hP hD [7] [0, 1, 2, 3, 4, 5, 6, 8, 9, 10, 11, 12, 13, 14] [0, 1, 2, 3, 4, 5, 6, 14, 7, 8, 9, 10, 11, 12, 13] rfl rfl (by decide) (by decide) (fun _ => rfl) (by decide) (fun u52 H locs hw54 hP hD hS => ?_)
                      replace hw54 := hw54.symm; subst hw54
                      have hP : va_P D vwCl (mW cy h r (upd v 3 (tkV v A kr (nI i1) (nI m))) (va_up (va_up A 22 (tkF A kr (nI i1) (nI m))) 14 (behindS (A 12) n k (nI x)))) H := hP
                      have hD : va_D A_ (mW cy h r (upd v 3 (tkV v A kr (nI i1) (nI m))) (va_up (va_up A 22 (tkF A kr (nI i1) (nI m))) 14 (behindS (A 12) n k (nI x)))) := hD
                      refine lv_goto (tgt := 199) hx hb dX12_fits_164 (by decide) ?_
                      refine lv_iload hx hb dX12_fits_199 (lv_at hl 3 rfl) ?_
                      refine lv_iconst (v := nI 1) hx hb dX12_fits_201 (by decide) ?_
                      refine neN (tgt := 211) hx hb (by decide) (by decide) dX12_fits_202 (by decide) (fun c202 => ?_) (fun c202 => absurd c202 (by decide))
                      have hCf : Cat (behindS (A 12) n k (nI x)) n := hC.behind (by omega) (by omega)
                      refine lv_aload_n hx hb dX12_fits_211 rfl (lv_at hl 0 rfl) ?_
                      refine lv_iload_n hx hb dX12_fits_212 rfl (lv_at hl 1 rfl) ?_
                      refine lv_iload hx hb dX12_fits_213 (lv_at hl 2 rfl) ?_
                      refine call_i (wr := []) (ws' := (fun u55 : (Nat → Int32) => mW cy h r (upd v 3 (tkV v A kr (nI i1) (nI m))) (va_up (va_up A 22 (tkF A kr (nI i1) (nI m))) 14 u55))) (va_runV (As := [.int (nI k), .int (nI m)]) (rest := []) CF (k_X12_isSo l D cy _ h r (upd v 3 (tkV v A kr (nI i1) (nI m))) (va_up (va_up A 22 (tkF A kr (nI i1) (nI m))) 14 (behindS (A 12) n k (nI x))) n k m hCf (by first | assumption | omega | decide) (by first | assumption | omega | decide)) (cwV 2 hts gX12_fits_X12_isSo rfl rfl rfl (by decide +kernel) ⟨Nat.le_of_ble_eq_true rfl, Nat.le_of_ble_eq_true rfl⟩) (pre_V hKN hP hD [0, 1, 2, 3, 4, 5, 6, 7, 8, 9, 10, 11, 12, 13, 14] rfl (by decide) 0 11 rfl rfl) rfl rfl hl.1 rfl (lv_room (Nat.le_of_ble_eq_true rfl)) dX12_fits_215 ⟨Nat.le_of_ble_eq_true rfl, Nat.le_of_ble_eq_true rfl⟩) hS hA hP hD [0, 1, 2, 3, 4, 5, 6, 7, 8, 9, 10, 11, 12, 13, 14] [] [0, 1, 2, 3, 4, 5, 6, 7, 8, 9, 10, 11, 12, 13, 14] rfl rfl (by decide) (by decide) (fun _ => rfl) (by decide) (fun r56 u55 H locs hw57 hP hD hS => ?_)
                      replace hw57 := hw57.symm; subst hw57
                      have hP : va_P D vwCl (mW cy h r (upd v 3 (tkV v A kr (nI i1) (nI m))) (va_up (va_up A 22 (tkF A kr (nI i1) (nI m))) 14 u55)) H := hP
                      have hD : va_D A_ (mW cy h r (upd v 3 (tkV v A kr (nI i1) (nI m))) (va_up (va_up A 22 (tkF A kr (nI i1) (nI m))) 14 u55)) := hD
                      refine ifeqB (tgt := 225) hx hb dX12_fits_218 (by decide) (fun c218 => ?_) (fun c218 => ?_)
                      · replace c218 : ¬ (soB ((behindS (A 12) n k (nI x))) n k ((tkF A kr (nI i1) (nI m))) m 0 = true) := c218
                        refine lv_iconst (v := nI 0) hx hb dX12_fits_225 (by decide) ?_
                        refine lv_istore (lv' := [(11, .int (nI 0)), (0, .ref h), (1, .int (nI k)), (4, .int (nI m)), (5, .int (nI 3)), (8, .int (nI (dr - 1))), (9, .int sx), (10, .int (nI x))]) hx hb dX12_fits_226 hl (by decide) rfl (fun ls hl => ?_)
                        refine lv_iload hx hb dX12_fits_228 (lv_at hl 6 rfl) ?_
                        refine lv_iload hx hb dX12_fits_230 (lv_at hl 0 rfl) ?_
                        refine lv_if_eq (tgt := 242) hx hb dX12_fits_232 (by decide) (fun c232 => ?_) (fun c232 => absurd c232 (by decide))
                        refine lv_iconst (v := nI 0) hx hb dX12_fits_242 (by decide) ?_
                        refine lv_ior hx hb dX12_fits_243 ?_
                        refine lv_istore (lv' := [(9, .int (sx ||| nI 0)), (11, .int (nI 0)), (0, .ref h), (1, .int (nI k)), (4, .int (nI m)), (5, .int (nI 3)), (8, .int (nI (dr - 1))), (10, .int (nI x))]) hx hb dX12_fits_244 hl (by decide) rfl (fun ls hl => ?_)
                        refine lv_iinc (v := nI (x + 1)) (lv' := [(10, .int (nI (x + 1))), (9, .int (sx ||| nI 0)), (11, .int (nI 0)), (0, .ref h), (1, .int (nI k)), (4, .int (nI m)), (5, .int (nI 3)), (8, .int (nI (dr - 1)))]) hx hb dX12_fits_246 hl (k := 7) rfl (nI_1 _) (by decide) rfl (fun ls hl => ?_)
                        refine lv_goto (tgt := 123) hx hb dX12_fits_249 (by decide) ?_
                        exact ih123 (x + 1) (sx ||| nI 0) u55 (by omega) (by omega) (by omega) (by rw [fitA, ← es, if_neg (fun q => c218 (by rw [← (fitB_3b c151)]; exact q.2))]) _ _ hP hD hS ls (lv_sub hl [3, 4, 5, 6, 7, 1, 0] rfl)
                      · replace c218 : (soB ((behindS (A 12) n k (nI x))) n k ((tkF A kr (nI i1) (nI m))) m 0 = true) := c218
                        refine lv_iconst (v := nI 1) hx hb dX12_fits_221 (by decide) ?_
                        refine lv_goto (tgt := 226) hx hb dX12_fits_222 (by decide) ?_
                        refine lv_istore (lv' := [(11, .int (nI 1)), (0, .ref h), (1, .int (nI k)), (4, .int (nI m)), (5, .int (nI 3)), (8, .int (nI (dr - 1))), (9, .int sx), (10, .int (nI x))]) hx hb dX12_fits_226 hl (by decide) rfl (fun ls hl => ?_)
                        refine lv_iload hx hb dX12_fits_228 (lv_at hl 6 rfl) ?_
                        refine lv_iload hx hb dX12_fits_230 (lv_at hl 0 rfl) ?_
                        refine lv_if_eq (tgt := 242) hx hb dX12_fits_232 (by decide) (fun c232 => absurd c232 (by decide)) (fun c232 => ?_)
                        refine lv_iconst (v := nI 1) hx hb dX12_fits_235 (by decide) ?_
                        refine lv_iload hx hb dX12_fits_236 (lv_at hl 7 rfl) ?_
                        refine lv_ishl hx hb dX12_fits_238 ?_
                        refine lv_goto (tgt := 243) hx hb dX12_fits_239 (by decide) ?_
                        refine lv_ior hx hb dX12_fits_243 ?_
                        refine lv_istore (lv' := [(9, .int (sx ||| (nI 1 <<< (nI x &&& 31)))), (11, .int (nI 1)), (0, .ref h), (1, .int (nI k)), (4, .int (nI m)), (5, .int (nI 3)), (8, .int (nI (dr - 1))), (10, .int (nI x))]) hx hb dX12_fits_244 hl (by decide) rfl (fun ls hl => ?_)
                        refine lv_iinc (v := nI (x + 1)) (lv' := [(10, .int (nI (x + 1))), (9, .int (sx ||| (nI 1 <<< (nI x &&& 31)))), (11, .int (nI 1)), (0, .ref h), (1, .int (nI k)), (4, .int (nI m)), (5, .int (nI 3)), (8, .int (nI (dr - 1)))]) hx hb dX12_fits_246 hl (k := 7) rfl (nI_1 _) (by decide) rfl (fun ls hl => ?_)
                        refine lv_goto (tgt := 123) hx hb dX12_fits_249 (by decide) ?_
                        exact ih123 (x + 1) (sx ||| (nI 1 <<< (nI x &&& 31))) u55 (by omega) (by omega) (by omega) (by rw [fitA, ← es, if_pos ⟨(by omega), (by rw [(fitB_3b c151)]; exact c218)⟩]) _ _ hP hD hS ls (lv_sub hl [3, 4, 5, 6, 7, 1, 0] rfl)
              exact lp123 (dr - 0 + 1) 0 (nI 0) (A 14) (by omega) (by omega) (by omega) rfl _ _ hP hD hS ls (lv_sub hl [5, 6, 9, 10, 2, 1, 0] rfl)
          · refine lv_iload hx hb dX12_fits_54 (lv_at hl 0 rfl) ?_
            exact ret _ ((upd v 3 (tkV v A kr i0 (nI m))), (va_up A 22 (tkF A kr i0 (nI m)))) _ _ _ _ dX12_fits_56 ⟨(by rw [mFit, if_neg (fun h => h.elim (fun h => h c5) (fun h => h.elim (fun h => h c12) (fun h => h.elim (fun h => h c23) (fun h => h c33)))), show cl (nI k) = k from e_k, show cl (nI kr) = kr from e_kr, show cl (nI m) = m from e_m, if_pos c51]), (by rw [mFit, if_neg (fun h => h.elim (fun h => h c5) (fun h => h.elim (fun h => h c12) (fun h => h.elim (fun h => h c23) (fun h => h c33)))), show cl (nI k) = k from e_k, show cl (nI kr) = kr from e_kr, show cl (nI m) = m from e_m, if_pos c51]), (fun j h1 h2 h3 h4 => by simp [va_up, h1, h2, h3, h4])⟩ hP hD hS
        · replace c33 : ¬ ((nI 0) ≤ w0 ∧ w0 ≤ (nI 3)) := c33
          refine lv_ldc hx hb hown hc66 dX12_fits_36 ?_
          exact ret _ (v, A) _ _ _ _ dX12_fits_38 ⟨(by simp [-not_and, -Int32.not_le, -Int32.not_lt, noOne, noDr, mFit, c5, e_k, c12, e_kr, c23, e_m, c33]), (by simp [-not_and, -Int32.not_le, -Int32.not_lt, noOne, noDr, mFit, c5, e_k, c12, e_kr, c23, e_m, c33]), (fun j h1 h2 h3 h4 => by simp [va_up, h1, h2, h3, h4])⟩ hP hD hS
