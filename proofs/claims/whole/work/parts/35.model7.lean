set_option maxHeartbeats 4000000 in
set_option maxRecDepth 100000 in
theorem k_X12_takeOut (l : Launch) (D : va_G) (cy : Nat → ClassId) (sz : Nat) (h : Nat) (r : Nat → Nat) (v : Nat → Int32) (A : Nat → Nat → Int32) (k : Nat) (i0 : Int32) (n0 : Int32) (hsz : ∀ k, k < 8 → ∃ z, z ≤ 40 ∧ A 1 k = nI z) (hk8 : k < 8) (hn12 : n0 ≤ nI 12) : Met l yX12_takeOut wsX12_takeOut (rmD 1) (pPre D (TY cy) (mW cy h r v A) sz [.ref h, .int (nI k), .int i0, .int n0]) (pI D (TY cy) (mW cy h r v A) sz (fun u : Int32 × (Nat → Int32) => mW cy h r (upd v 3 u.1) (va_up A 22 u.2)) (fun (r_ : Int32) (u : Int32 × (Nat → Int32)) => r_ = tkR A k i0 n0 ∧ u = (tkV v A k i0 n0, tkF A k i0 n0))) 0 0 (va_A (mW cy h r v A) sz) := by
  refine ent_i (cc := cX12_takeOut) (maxL := 5) (by decide +kernel) rfl (Nat.le_of_ble_eq_true rfl) ?_
  intro p_ e_ s_ m_ args_ below_ meth_ c_ A_ Q_ ls B0 ret
  obtain ⟨CF, hA, hKN, hP, hD, hl⟩ := B0
  have hK := hKN.1
  obtain ⟨hx, hb, hml, hown, hts⟩ := id CF
  have hS : va_S A_ s_.heap s_.heap [] := va_S.rf
  have hl : lv_has ls 5 [(0, .ref h), (1, .int (nI k)), (2, .int i0), (3, .int n0)] := hl
  have hf7 := hts (.fieldLink RX12 7 "DrawerCardsModel" "lane" "[I") (by decide +kernel)
  have hinX12 := show ∀ w ∈ u_ws RX12 TX12 24, w ∈ wsX12_takeOut from by decide +kernel
  have hf13 := hts (.fieldLink RX12 13 "DrawerCardsModel" "size" "[I") (by decide +kernel)
  have hf47 := hts (.fieldLink RX12 47 "DrawerCardsModel" "told" "[I") (by decide +kernel)
  have hf16 := hts (.fieldLink RX12 16 "DrawerCardsModel" "items" "[I") (by decide +kernel)
  refine lv_aload_n hx hb dX12_takeOut_0 rfl (lv_at hl 0 rfl) ?_
  refine va_get (ci := 11) (v := .ref (r 0)) (C := RX12) (T := TX12) (N := 24) hx hb hts hinX12 hown hK hP 0 rfl rfl 0 (by decide) hf7 (fun _ h9 => h9) rfl dX12_takeOut_1 ?_
  refine lv_iload_n hx hb dX12_takeOut_4 rfl (lv_at hl 1 rfl) ?_
  refine ldN (f := (A 0)) hx hb hK hP 1 rfl (j := k) (by omega) (by decide) dX12_takeOut_5 ?_
  refine lv_if_ge (tgt := 15) hx hb dX12_takeOut_6 (by decide) (fun c6 => ?_) (fun c6 => ?_)
  · refine lv_iload_n hx hb dX12_takeOut_15 rfl (lv_at hl 2 rfl) ?_
    refine lv_iload_n hx hb dX12_takeOut_16 rfl (lv_at hl 3 rfl) ?_
    refine lv_aload_n hx hb dX12_takeOut_17 rfl (lv_at hl 0 rfl) ?_
    refine va_get (ci := 11) (v := .ref (r 1)) (C := RX12) (T := TX12) (N := 24) hx hb hts hinX12 hown hK hP 0 rfl rfl 1 (by decide) hf13 (fun _ h9 => h9) rfl dX12_takeOut_18 ?_
    refine lv_iload_n hx hb dX12_takeOut_21 rfl (lv_at hl 1 rfl) ?_
    refine ldN (f := (A 1)) hx hb hK hP 2 rfl (j := k) (by omega) (by decide) dX12_takeOut_22 ?_
    refine call_i (wr := [(h, .inr (11, mO r v)), ((r 0), wInt (cy 0) 8 (A 0)), ((r 1), wInt (cy 0) 8 (A 1)), ((r 2), wInt (cy 0) 320 (A 2)), ((r 5), wInt (cy 0) 60 (A 5)), ((r 12), wInt (cy 0) 37 (A 12)), ((r 13), wInt (cy 0) 37 (A 13)), ((r 14), wInt (cy 0) 37 (A 14)), ((r 15), wInt (cy 0) 37 (A 15)), ((r 16), wInt (cy 0) 74 (A 16)), ((r 17), wInt (cy 1) 2 (A 17)), ((r 18), wInt (cy 0) 888 (A 18)), ((r 20), wInt (cy 0) 16 (A 20)), ((r 22), wInt (cy 0) 16 (A 22)), ((r 23), wInt (cy 0) 24 (A 23))]) (ws' := (fun _ : Unit => mW cy h r v A)) (va_runS (As := [.int i0, .int n0, .int ((A 1) k)]) (rest := []) CF (k_X12_isPart l D cy _ i0 n0 ((A 1) k) ) (va_cwS 3 hts gX12_takeOut_X12_isPart rfl rfl rfl (by decide +kernel) ⟨Nat.le_of_ble_eq_true rfl, Nat.le_of_ble_eq_true rfl⟩) (pre_S hKN hP hD [] rfl (by decide)) rfl rfl hl.1 rfl (lv_room (Nat.le_of_ble_eq_true rfl)) dX12_takeOut_23 ⟨Nat.le_of_ble_eq_true rfl, Nat.le_of_ble_eq_true rfl⟩) hS hA hP hD [] [0, 1, 2, 3, 4, 5, 6, 7, 8, 9, 10, 11, 12, 13, 14] [0, 1, 2, 3, 4, 5, 6, 7, 8, 9, 10, 11, 12, 13, 14] rfl rfl (by decide) (by decide) (fun _ => rfl) (by decide) (fun r2 u1 H locs hw3 hP hD hS => ?_)
    replace hw3 := hw3.symm; subst hw3
    refine ifneB (tgt := 35) hx hb dX12_takeOut_26 (by decide) (fun c26 => ?_) (fun c26 => ?_)
    · replace c26 : (isPrt i0 n0 ((A 1) k)) := c26
      obtain ⟨z, hz, ez⟩ := hsz k (by omega)
      obtain ⟨i1, n1, hin1, rfl, rfl⟩ := isPrt_nat hz (by rw [← ez]; exact c26)
      have e_i1 : (nI i1).toNatClampNeg = i1 := nI_clamp (by omega)
      have e_n1 : (nI n1).toNatClampNeg = n1 := nI_clamp (by omega)
      refine lv_iconst (v := nI 0) hx hb dX12_takeOut_35 (by decide) ?_
      refine lv_istore (lv' := [(4, .int (nI 0)), (0, .ref h), (1, .int (nI k)), (2, .int (nI i1)), (3, .int (nI n1))]) hx hb dX12_takeOut_36 hl (by decide) rfl (fun ls hl => ?_)
      have lp38 : ∀ f_ : Nat, ∀ (q : Nat) (f2 : Nat → Int32), (n1 - q) < f_ → (q ≤ n1) → (f2 = tkN (A 22) (A 2) (40 * k + i1) q) → ∀ (H : Heap) (locs : List Loc), va_P D vwCl (mW cy h r v (va_up A 22 f2)) H → va_D A_ (mW cy h r v (va_up A 22 f2)) → va_S A_ s_.heap H locs → ∀ ls : Array Slot, lv_has ls 5 [(0, .ref h), (1, .int (nI k)), (2, .int (nI i1)), (3, .int (nI n1)), (4, .int (nI q))] → W p_ l e_ (rmD 1) s_ m_ args_ below_ meth_ c_ H locs 0 0 Q_ (F0 m_ 38 ls []) := by
        intro f_
        induction f_ with
        | zero => intro q f2 hm_; exact absurd hm_ (by omega)
        | succ f_ ih38 =>
          intro q f2 hm_ hq e2 H locs hP hD hS ls hl
          refine lv_iload hx hb dX12_takeOut_38 (lv_at hl 4 rfl) ?_
          refine lv_iload_n hx hb dX12_takeOut_40 rfl (lv_at hl 3 rfl) ?_
          refine geN (tgt := 71) hx hb (by omega) (by omega) dX12_takeOut_41 (by decide) (fun c41 => ?_) (fun c41 => ?_)
          · refine lv_iconst (v := nI 0) hx hb dX12_takeOut_71 (by decide) ?_
            exact ret _ ((v 3), f2) _ _ _ _ dX12_takeOut_72 (by have hq9 : q = n1 := (by omega); subst hq9; simp [-not_and, -Int32.not_le, -Int32.not_lt, noOne, noDr, isPrt, tkR, tkV, tkF, c6, c26, e_i1, e_n1, c41, Nat.not_lt_of_le c41, e2]) hP hD hS
          · refine lv_aload_n hx hb dX12_takeOut_44 rfl (lv_at hl 0 rfl) ?_
            refine va_get (ci := 11) (v := .ref (r 22)) (C := RX12) (T := TX12) (N := 24) hx hb hts hinX12 hown hK hP 0 rfl rfl 22 (by decide) hf47 (fun _ h9 => h9) rfl dX12_takeOut_45 ?_
            refine lv_iload hx hb dX12_takeOut_48 (lv_at hl 4 rfl) ?_
            refine lv_aload_n hx hb dX12_takeOut_50 rfl (lv_at hl 0 rfl) ?_
            refine va_get (ci := 11) (v := .ref (r 2)) (C := RX12) (T := TX12) (N := 24) hx hb hts hinX12 hown hK hP 0 rfl rfl 2 (by decide) hf16 (fun _ h9 => h9) rfl dX12_takeOut_51 ?_
            refine lv_bipush (v := nI 40) hx hb dX12_takeOut_54 (by decide) ?_
            refine lv_iload_n hx hb dX12_takeOut_56 rfl (lv_at hl 1 rfl) ?_
            refine muN (k := 40 * k) hx hb rfl dX12_takeOut_57 ?_
            refine lv_iload_n hx hb dX12_takeOut_58 rfl (lv_at hl 2 rfl) ?_
            refine adN (k := 40 * k + i1) hx hb rfl dX12_takeOut_59 ?_
            refine lv_iload hx hb dX12_takeOut_60 (lv_at hl 4 rfl) ?_
            refine adN (k := 40 * k + i1 + q) hx hb rfl dX12_takeOut_62 ?_
            refine ldN (f := (A 2)) hx hb hK hP 3 rfl (j := 40 * k + i1 + q) (by omega) (by decide) dX12_takeOut_63 ?_
            refine stN (f := f2) (ws' := mW cy h r v (va_up A 22 (upd f2 q ((A 2) (40 * k + i1 + q))))) hx hb hK hP hD hS 13 rfl (j := q) (by rw [nIle (by omega) (by decide)] at hn12; omega) (by decide) dX12_takeOut_64 rfl (fun H locs hP hD hS => ?_)
            refine lv_iinc (v := nI (q + 1)) (lv' := [(4, .int (nI (q + 1))), (0, .ref h), (1, .int (nI k)), (2, .int (nI i1)), (3, .int (nI n1))]) hx hb dX12_takeOut_65 hl (k := 4) rfl (nI_1 _) (by decide) rfl (fun ls hl => ?_)
            refine lv_goto (tgt := 38) hx hb dX12_takeOut_68 (by decide) ?_
            exact ih38 (q + 1) (upd f2 q ((A 2) (40 * k + i1 + q))) (by omega) (by omega) (by rw [e2]; rfl) _ _ hP hD hS ls (lv_sub hl [1, 2, 3, 4, 0] rfl)
      exact lp38 (n1 - 0 + 1) 0 (A 22) (by omega) (by omega) rfl _ _ hP hD hS ls (lv_sub hl [1, 2, 3, 4, 0] rfl)
    · replace c26 : ¬ (isPrt i0 n0 ((A 1) k)) := c26
      refine lv_aload_n hx hb dX12_takeOut_29 rfl (lv_at hl 0 rfl) ?_
      refine lv_iconst (v := nI 2) hx hb dX12_takeOut_30 (by decide) ?_
      refine call_i (wr := []) (ws' := (fun _ : Unit => mW cy h r (upd v 3 (nI 2)) A)) (va_runV (As := [.int (nI 2)]) (rest := []) CF (k_X12_finds l D cy _ h r v A (nI 2) ) (cwV 1 hts gX12_takeOut_X12_finds rfl rfl rfl (by decide +kernel) ⟨Nat.le_of_ble_eq_true rfl, Nat.le_of_ble_eq_true rfl⟩) (pre_V hKN hP hD [0, 1, 2, 3, 4, 5, 6, 7, 8, 9, 10, 11, 12, 13, 14] rfl (by decide) 0 11 rfl rfl) rfl rfl hl.1 rfl (lv_room (Nat.le_of_ble_eq_true rfl)) dX12_takeOut_31 ⟨Nat.le_of_ble_eq_true rfl, Nat.le_of_ble_eq_true rfl⟩) hS hA hP hD [0, 1, 2, 3, 4, 5, 6, 7, 8, 9, 10, 11, 12, 13, 14] [] [0, 1, 2, 3, 4, 5, 6, 7, 8, 9, 10, 11, 12, 13, 14] rfl rfl (by decide) (by decide) (fun _ => rfl) (by decide) (fun r5 u4 H locs hw6 hP hD hS => ?_)
      replace hw6 := hw6.symm; subst hw6
      exact ret _ ((nI 2), (A 22)) _ _ _ _ dX12_takeOut_34 (by simp [-not_and, -Int32.not_le, -Int32.not_lt, noOne, noDr, isPrt, tkR, tkV, tkF, c6, c26]) hP hD hS
  · refine lv_aload_n hx hb dX12_takeOut_9 rfl (lv_at hl 0 rfl) ?_
    refine lv_iconst (v := nI 1) hx hb dX12_takeOut_10 (by decide) ?_
    refine call_i (wr := []) (ws' := (fun _ : Unit => mW cy h r (upd v 3 (nI 1)) A)) (va_runV (As := [.int (nI 1)]) (rest := []) CF (k_X12_finds l D cy _ h r v A (nI 1) ) (cwV 1 hts gX12_takeOut_X12_finds rfl rfl rfl (by decide +kernel) ⟨Nat.le_of_ble_eq_true rfl, Nat.le_of_ble_eq_true rfl⟩) (pre_V hKN hP hD [0, 1, 2, 3, 4, 5, 6, 7, 8, 9, 10, 11, 12, 13, 14] rfl (by decide) 0 11 rfl rfl) rfl rfl hl.1 rfl (lv_room (Nat.le_of_ble_eq_true rfl)) dX12_takeOut_11 ⟨Nat.le_of_ble_eq_true rfl, Nat.le_of_ble_eq_true rfl⟩) hS hA hP hD [0, 1, 2, 3, 4, 5, 6, 7, 8, 9, 10, 11, 12, 13, 14] [] [0, 1, 2, 3, 4, 5, 6, 7, 8, 9, 10, 11, 12, 13, 14] rfl rfl (by decide) (by decide) (fun _ => rfl) (by decide) (fun r8 u7 H locs hw9 hP hD hS => ?_)
    replace hw9 := hw9.symm; subst hw9
    exact ret _ ((nI 1), (A 22)) _ _ _ _ dX12_takeOut_14 (by simp [-not_and, -Int32.not_le, -Int32.not_lt, noOne, noDr, isPrt, tkR, tkV, tkF, c6]) hP hD hS
set_option maxHeartbeats 4000000 in
set_option maxRecDepth 100000 in
theorem k_X12_isSo (l : Launch) (D : va_G) (cy : Nat → ClassId) (sz : Nat) (h : Nat) (r : Nat → Nat) (v : Nat → Int32) (A : Nat → Nat → Int32) (n : Nat) (c : Nat) (m : Nat) (hC : Cat (A 14) n) (hc : c < n) (hm : m ≤ 12) : Met l yX12_isSo wsX12_isSo (rmD 6) (pPre D (TY cy) (mW cy h r v A) sz [.ref h, .int (nI c), .int (nI m)]) (pI D (TY cy) (mW cy h r v A) sz (fun f3 : Nat → Int32 => mW cy h r v (va_up A 14 f3)) (fun (r_ : Int32) (u : (Nat → Int32)) => r_ = bI (soB (A 14) n c (A 22) m 0 = true))) 0 0 (va_A (mW cy h r v A) sz) := by
  refine ent_z (cc := cX12_isSo) (maxL := 4) (by decide +kernel) rfl (Nat.le_of_ble_eq_true rfl) ?_
  intro p_ e_ s_ m_ args_ below_ meth_ c_ A_ Q_ ls B0 ret
  obtain ⟨CF, hA, hKN, hP, hD, hl⟩ := B0
  have hK := hKN.1
  obtain ⟨hx, hb, hml, hown, hts⟩ := id CF
  have hS : va_S A_ s_.heap s_.heap [] := va_S.rf
  have hl : lv_has ls 4 [(0, .ref h), (1, .int (nI c)), (2, .int (nI m))] := hl
  have hf28 := hts (.fieldLink RX12 28 "DrawerCardsModel" "tried" "[I") (by decide +kernel)
  have hinX12 := show ∀ w ∈ u_ws RX12 TX12 24, w ∈ wsX12_isSo from by decide +kernel
  have hf47 := hts (.fieldLink RX12 47 "DrawerCardsModel" "told" "[I") (by decide +kernel)
  have hn := hC.2.1
  refine lv_iconst (v := nI 0) hx hb dX12_isSo_0 (by decide) ?_
  refine lv_istore_n (lv' := [(3, .int (nI 0)), (0, .ref h), (1, .int (nI c)), (2, .int (nI m))]) hx hb dX12_isSo_1 rfl hl (by decide) rfl (fun ls hl => ?_)
  have lp2 : ∀ f_ : Nat, ∀ (j : Nat) (f2 : Nat → Int32), (m - j) < f_ → (j ≤ m) → (Cat f2 n) → (f2 = nightsS (A 14) n j) → (soB (A 14) n c (A 22) m 0 = soB (A 14) n c (A 22) (m - j) j) → ∀ (H : Heap) (locs : List Loc), va_P D vwCl (mW cy h r v (va_up A 14 f2)) H → va_D A_ (mW cy h r v (va_up A 14 f2)) → va_S A_ s_.heap H locs → ∀ ls : Array Slot, lv_has ls 4 [(0, .ref h), (1, .int (nI c)), (2, .int (nI m)), (3, .int (nI j))] → W p_ l e_ (rmD 6) s_ m_ args_ below_ meth_ c_ H locs 0 0 Q_ (F0 m_ 2 ls []) := by
    intro f_
    induction f_ with
    | zero => intro j f2 hm_; exact absurd hm_ (by omega)
    | succ f_ ih2 =>
      intro j f2 hm_ hj hC2 e2 eS H locs hP hD hS ls hl
      refine lv_iload_n hx hb dX12_isSo_2 rfl (lv_at hl 3 rfl) ?_
      refine lv_iload_n hx hb dX12_isSo_3 rfl (lv_at hl 2 rfl) ?_
      refine geN (tgt := 38) hx hb (by omega) (by omega) dX12_isSo_4 (by decide) (fun c4 => ?_) (fun c4 => ?_)
      · refine lv_iconst (v := nI 1) hx hb dX12_isSo_38 (by decide) ?_
        exact ret _ f2 _ _ _ _ dX12_isSo_39 rfl (by rw [bI_t (by rw [eS, show m - j = 0 by omega]; rfl)]; rfl) hP hD hS
      · refine lv_aload_n hx hb dX12_isSo_7 rfl (lv_at hl 0 rfl) ?_
        refine lv_iconst (v := nI 1) hx hb dX12_isSo_8 (by decide) ?_
        refine call_v (wr := []) (ws' := (fun u1 : (Nat → Int32) => mW cy h r v (va_up A 14 u1))) (va_runV (As := [.int (nI 1)]) (rest := []) CF (k_X12_goOn l D cy _ h r v (va_up A 14 f2) 1 n (by first | assumption | omega | decide) hC2) (cwV 1 hts gX12_isSo_X12_goOn rfl rfl rfl (by decide +kernel) ⟨Nat.le_of_ble_eq_true rfl, Nat.le_of_ble_eq_true rfl⟩) (pre_V hKN hP hD [0, 1, 2, 3, 4, 5, 6, 7, 8, 9, 10, 11, 12, 13, 14] rfl (by decide) 0 11 rfl rfl) rfl rfl hl.1 rfl (lv_room (Nat.le_of_ble_eq_true rfl)) dX12_isSo_9 ⟨Nat.le_of_ble_eq_true rfl, Nat.le_of_ble_eq_true rfl⟩) hS hA hP hD [0, 1, 2, 3, 4, 5, 6, 7, 8, 9, 10, 11, 12, 13, 14] [] [0, 1, 2, 3, 4, 5, 6, 7, 8, 9, 10, 11, 12, 13, 14] rfl rfl (by decide) (by decide) (fun _ => rfl) (by decide) (fun u1 H locs hw3 hP hD hS => ?_)
        replace hw3 := hw3.symm; subst hw3
        have hP : va_P D vwCl (mW cy h r v (va_up A 14 (nightsS (f2) n 1))) H := hP
        have hD : va_D A_ (mW cy h r v (va_up A 14 (nightsS (f2) n 1))) := hD
        refine lv_aload_n hx hb dX12_isSo_12 rfl (lv_at hl 0 rfl) ?_
        refine va_get (ci := 11) (v := .ref (r 14)) (C := RX12) (T := TX12) (N := 24) hx hb hts hinX12 hown hK hP 0 rfl rfl 14 (by decide) hf28 (fun _ h9 => h9) rfl dX12_isSo_13 ?_
        refine lv_bipush (v := nI 21) hx hb dX12_isSo_16 (by decide) ?_
        refine lv_iload_n hx hb dX12_isSo_18 rfl (lv_at hl 1 rfl) ?_
        refine adN (k := 21 + c) hx hb rfl dX12_isSo_19 ?_
        refine ldN (f := nightsS (f2) n 1) hx hb hK hP 7 rfl (j := 21 + c) (by omega) (by decide) dX12_isSo_20 ?_
        refine lv_aload_n hx hb dX12_isSo_21 rfl (lv_at hl 0 rfl) ?_
        refine va_get (ci := 11) (v := .ref (r 22)) (C := RX12) (T := TX12) (N := 24) hx hb hts hinX12 hown hK hP 0 rfl rfl 22 (by decide) hf47 (fun _ h9 => h9) rfl dX12_isSo_22 ?_
        refine lv_iload_n hx hb dX12_isSo_25 rfl (lv_at hl 3 rfl) ?_
        refine ldN (f := (A 22)) hx hb hK hP 13 rfl (j := j) (by omega) (by decide) dX12_isSo_26 ?_
        refine lv_icmp_eq (tgt := 32) hx hb dX12_isSo_27 (by decide) (fun c27 => ?_) (fun c27 => ?_)
        · refine lv_iinc (v := nI (j + 1)) (lv' := [(3, .int (nI (j + 1))), (0, .ref h), (1, .int (nI c)), (2, .int (nI m))]) hx hb dX12_isSo_32 hl (k := 3) rfl (nI_1 _) (by decide) rfl (fun ls hl => ?_)
          refine lv_goto (tgt := 2) hx hb dX12_isSo_35 (by decide) ?_
          exact ih2 (j + 1) (nightsS (f2) n 1) (by omega) (by omega) (hC2.night _) (by rw [e2]; rfl) (by subst e2; rw [eS, soB_at _ _ _ _ (by omega), decide_eq_true (show nightsS (A 14) n (j + 1) (21 + c) = A 22 j from c27)]; rfl) _ _ hP hD hS ls (lv_sub hl [1, 2, 3, 0] rfl)
        · refine lv_iconst (v := nI 0) hx hb dX12_isSo_30 (by decide) ?_
          exact ret _ (nightsS (f2) n 1) _ _ _ _ dX12_isSo_31 rfl (by subst e2; rw [bI_f (by rw [eS, soB_at _ _ _ _ (by omega), decide_eq_false (show ¬ nightsS (A 14) n (j + 1) (21 + c) = A 22 j from c27)]; simp)]; rfl) hP hD hS
  exact lp2 (m - 0 + 1) 0 (A 14) (by omega) (by omega) hC rfl rfl _ _ hP hD hS ls (lv_sub hl [1, 2, 3, 0] rfl)
