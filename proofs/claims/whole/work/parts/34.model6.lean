set_option maxHeartbeats 4000000 in
set_option maxRecDepth 100000 in
theorem k_X12_tour (l : Launch) (D : va_G) (cy : Nat → ClassId) (sz : Nat) (h : Nat) (r : Nat → Nat) (v : Nat → Int32) (A : Nat → Nat → Int32) (n : Nat) (dr : Nat) (m0 : Int32) (w0 : Int32) (hC : Cat (A 12) n) (hd : A 12 1 = nI dr) (hd6 : dr ≤ 6) : Met l yX12_tour wsX12_tour (rmD 6) (pPre D (TY cy) (mW cy h r v A) sz [.ref h, .int m0, .int w0]) (pI D (TY cy) (mW cy h r v A) sz (fun A2 : Nat → Nat → Int32 => mW cy h r v A2) (fun (r_ : Int32) (u : (Nat → Nat → Int32)) => r_ = mTour A n dr m0 w0 ∧ scr u A)) 0 0 (va_A (mW cy h r v A) sz) := by
  refine ent_i (cc := cX12_tour) (maxL := 14) (by decide +kernel) rfl (Nat.le_of_ble_eq_true rfl) ?_
  intro p_ e_ s_ m_ args_ below_ meth_ c_ A_ Q_ ls B0 ret
  obtain ⟨CF, hA, hKN, hP, hD, hl⟩ := B0
  have hK := hKN.1
  obtain ⟨hx, hb, hml, hown, hts⟩ := id CF
  have hS : va_S A_ s_.heap s_.heap [] := va_S.rf
  have hl : lv_has ls 14 [(0, .ref h), (1, .int m0), (2, .int w0)] := hl
  have hc66 := hts (.constant RX12 66 (-1000001)) (by decide +kernel)
  have hf50 := hts (.fieldLink RX12 50 "DrawerCardsModel" "seen" "[I") (by decide +kernel)
  have hinX12 := show ∀ w ∈ u_ws RX12 TX12 24, w ∈ wsX12_tour from by decide +kernel
  have hf22 := hts (.fieldLink RX12 22 "DrawerCardsModel" "now" "[I") (by decide +kernel)
  have hf28 := hts (.fieldLink RX12 28 "DrawerCardsModel" "tried" "[I") (by decide +kernel)
  have hc172 := hts (.constant RX12 172 (-1000002)) (by decide +kernel)
  have hn := hC.2.1
  refine lv_aload_n hx hb dX12_tour_0 rfl (lv_at hl 0 rfl) ?_
  refine call_i (wr := []) (ws' := (fun _ : Unit => mW cy h r v A)) (va_runV (As := []) (rest := []) CF (k_X12_isThere l D cy _ h r v A ) (cwV 0 hts gX12_tour_X12_isThere rfl rfl rfl (by decide +kernel) ⟨Nat.le_of_ble_eq_true rfl, Nat.le_of_ble_eq_true rfl⟩) (pre_V hKN hP hD [0, 1, 2, 3, 4, 5, 6, 7, 8, 9, 10, 11, 12, 13, 14] rfl (by decide) 0 11 rfl rfl) rfl rfl hl.1 rfl (lv_room (Nat.le_of_ble_eq_true rfl)) dX12_tour_1 ⟨Nat.le_of_ble_eq_true rfl, Nat.le_of_ble_eq_true rfl⟩) hS hA hP hD [0, 1, 2, 3, 4, 5, 6, 7, 8, 9, 10, 11, 12, 13, 14] [] [0, 1, 2, 3, 4, 5, 6, 7, 8, 9, 10, 11, 12, 13, 14] rfl rfl (by decide) (by decide) (fun _ => rfl) (by decide) (fun r2 u1 H locs hw3 hP hD hS => ?_)
  replace hw3 := hw3.symm; subst hw3
  refine ifneB (tgt := 10) hx hb dX12_tour_4 (by decide) (fun c4 => ?_) (fun c4 => ?_)
  · replace c4 : ((A 12) 4 = nI 1) := c4
    refine lv_iload_n hx hb dX12_tour_10 rfl (lv_at hl 1 rfl) ?_
    refine lv_iconst (v := nI 1) hx hb dX12_tour_11 (by decide) ?_
    refine lv_iconst (v := nI 4) hx hb dX12_tour_12 (by decide) ?_
    refine call_i (wr := [(h, .inr (11, mO r v)), ((r 0), wInt (cy 0) 8 (A 0)), ((r 1), wInt (cy 0) 8 (A 1)), ((r 2), wInt (cy 0) 320 (A 2)), ((r 5), wInt (cy 0) 60 (A 5)), ((r 12), wInt (cy 0) 37 (A 12)), ((r 13), wInt (cy 0) 37 (A 13)), ((r 14), wInt (cy 0) 37 (A 14)), ((r 15), wInt (cy 0) 37 (A 15)), ((r 16), wInt (cy 0) 74 (A 16)), ((r 17), wInt (cy 1) 2 (A 17)), ((r 18), wInt (cy 0) 888 (A 18)), ((r 20), wInt (cy 0) 16 (A 20)), ((r 22), wInt (cy 0) 16 (A 22)), ((r 23), wInt (cy 0) 24 (A 23))]) (ws' := (fun _ : Unit => mW cy h r v A)) (va_runS (As := [.int m0, .int (nI 1), .int (nI 4)]) (rest := []) CF (k_X12_in l D cy _ m0 (nI 1) (nI 4) ) (va_cwS 3 hts gX12_tour_X12_in rfl rfl rfl (by decide +kernel) ⟨Nat.le_of_ble_eq_true rfl, Nat.le_of_ble_eq_true rfl⟩) (pre_S hKN hP hD [] rfl (by decide)) rfl rfl hl.1 rfl (lv_room (Nat.le_of_ble_eq_true rfl)) dX12_tour_13 ⟨Nat.le_of_ble_eq_true rfl, Nat.le_of_ble_eq_true rfl⟩) hS hA hP hD [] [0, 1, 2, 3, 4, 5, 6, 7, 8, 9, 10, 11, 12, 13, 14] [0, 1, 2, 3, 4, 5, 6, 7, 8, 9, 10, 11, 12, 13, 14] rfl rfl (by decide) (by decide) (fun _ => rfl) (by decide) (fun r5 u4 H locs hw6 hP hD hS => ?_)
    replace hw6 := hw6.symm; subst hw6
    refine ifeqB (tgt := 28) hx hb dX12_tour_16 (by decide) (fun c16 => ?_) (fun c16 => ?_)
    · replace c16 : ¬ ((nI 1) ≤ m0 ∧ m0 ≤ (nI 4)) := c16
      refine lv_ldc hx hb hown hc66 dX12_tour_28 ?_
      exact ret _ A _ _ _ _ dX12_tour_30 ⟨(by simp [-not_and, -Int32.not_le, -Int32.not_lt, noOne, noDr, mTour, c4, c16]), (fun j h1 h2 h3 h4 => by simp [va_up, h1, h2, h3, h4])⟩ hP hD hS
    · replace c16 : ((nI 1) ≤ m0 ∧ m0 ≤ (nI 4)) := c16
      obtain ⟨m, h_m, rfl⟩ := rng (m := 4) (by decide) ⟨Int32.le_trans (by decide) c16.1, c16.2⟩
      have e_m : (nI m).toNatClampNeg = m := nI_clamp (by omega)
      refine lv_iload_n hx hb dX12_tour_19 rfl (lv_at hl 2 rfl) ?_
      refine lv_iconst (v := nI 0) hx hb dX12_tour_20 (by decide) ?_
      refine lv_iconst (v := nI 1) hx hb dX12_tour_21 (by decide) ?_
      refine call_i (wr := [(h, .inr (11, mO r v)), ((r 0), wInt (cy 0) 8 (A 0)), ((r 1), wInt (cy 0) 8 (A 1)), ((r 2), wInt (cy 0) 320 (A 2)), ((r 5), wInt (cy 0) 60 (A 5)), ((r 12), wInt (cy 0) 37 (A 12)), ((r 13), wInt (cy 0) 37 (A 13)), ((r 14), wInt (cy 0) 37 (A 14)), ((r 15), wInt (cy 0) 37 (A 15)), ((r 16), wInt (cy 0) 74 (A 16)), ((r 17), wInt (cy 1) 2 (A 17)), ((r 18), wInt (cy 0) 888 (A 18)), ((r 20), wInt (cy 0) 16 (A 20)), ((r 22), wInt (cy 0) 16 (A 22)), ((r 23), wInt (cy 0) 24 (A 23))]) (ws' := (fun _ : Unit => mW cy h r v A)) (va_runS (As := [.int w0, .int (nI 0), .int (nI 1)]) (rest := []) CF (k_X12_in l D cy _ w0 (nI 0) (nI 1) ) (va_cwS 3 hts gX12_tour_X12_in rfl rfl rfl (by decide +kernel) ⟨Nat.le_of_ble_eq_true rfl, Nat.le_of_ble_eq_true rfl⟩) (pre_S hKN hP hD [] rfl (by decide)) rfl rfl hl.1 rfl (lv_room (Nat.le_of_ble_eq_true rfl)) dX12_tour_22 ⟨Nat.le_of_ble_eq_true rfl, Nat.le_of_ble_eq_true rfl⟩) hS hA hP hD [] [0, 1, 2, 3, 4, 5, 6, 7, 8, 9, 10, 11, 12, 13, 14] [0, 1, 2, 3, 4, 5, 6, 7, 8, 9, 10, 11, 12, 13, 14] rfl rfl (by decide) (by decide) (fun _ => rfl) (by decide) (fun r8 u7 H locs hw9 hP hD hS => ?_)
      replace hw9 := hw9.symm; subst hw9
      refine ifneB (tgt := 31) hx hb dX12_tour_25 (by decide) (fun c25 => ?_) (fun c25 => ?_)
      · replace c25 : ((nI 0) ≤ w0 ∧ w0 ≤ (nI 1)) := c25
        refine lv_aload_n hx hb dX12_tour_31 rfl (lv_at hl 0 rfl) ?_
        refine call_v (wr := []) (ws' := (fun _ : Unit => mW cy h r v (va_up A 14 (A 12)))) (va_runV (As := []) (rest := []) CF (k_X12_begin l D cy _ h r v A ) (cwV 0 hts gX12_tour_X12_begin rfl rfl rfl (by decide +kernel) ⟨Nat.le_of_ble_eq_true rfl, Nat.le_of_ble_eq_true rfl⟩) (pre_V hKN hP hD [0, 1, 2, 3, 4, 5, 6, 7, 8, 9, 10, 11, 12, 13, 14] rfl (by decide) 0 11 rfl rfl) rfl rfl hl.1 rfl (lv_room (Nat.le_of_ble_eq_true rfl)) dX12_tour_32 ⟨Nat.le_of_ble_eq_true rfl, Nat.le_of_ble_eq_true rfl⟩) hS hA hP hD [0, 1, 2, 3, 4, 5, 6, 7, 8, 9, 10, 11, 12, 13, 14] [] [0, 1, 2, 3, 4, 5, 6, 7, 8, 9, 10, 11, 12, 13, 14] rfl rfl (by decide) (by decide) (fun _ => rfl) (by decide) (fun u10 H locs hw12 hP hD hS => ?_)
        refine lv_iconst (v := nI 1) hx hb dX12_tour_35 (by decide) ?_
        refine lv_istore_n (lv' := [(3, .int (nI 1)), (0, .ref h), (1, .int (nI m)), (2, .int w0)]) hx hb dX12_tour_36 rfl hl (by decide) rfl (fun ls hl => ?_)
        refine lv_iconst (v := nI 0) hx hb dX12_tour_37 (by decide) ?_
        refine lv_istore (lv' := [(4, .int (nI 0)), (3, .int (nI 1)), (0, .ref h), (1, .int (nI m)), (2, .int w0)]) hx hb dX12_tour_38 hl (by decide) rfl (fun ls hl => ?_)
        have lp40 : ∀ f_ : Nat, ∀ (k : Nat) (cd : Nat) (f2 : Nat → Int32) (fs : Nat → Int32), (m - k) < f_ → (k ≤ m) → (cd = 6 ^ k) → (Cat f2 n) → (f2 = nightsS (A 12) n k) → (∀ k1, k1 < k → ∀ d1, d1 < dr → fs (6 * k1 + d1) = svO (A 12) n k1 d1) → ∀ (H : Heap) (locs : List Loc), va_P D vwCl (mW cy h r v (va_up (va_up A 14 f2) 23 fs)) H → va_D A_ (mW cy h r v (va_up (va_up A 14 f2) 23 fs)) → va_S A_ s_.heap H locs → ∀ ls : Array Slot, lv_has ls 14 [(0, .ref h), (1, .int (nI m)), (2, .int w0), (3, .int (nI cd)), (4, .int (nI k))] → W p_ l e_ (rmD 6) s_ m_ args_ below_ meth_ c_ H locs 0 0 Q_ (F0 m_ 40 ls []) := by
          intro f_
          induction f_ with
          | zero => intro k cd f2 fs hm_; exact absurd hm_ (by omega)
          | succ f_ ih40 =>
            intro k cd f2 fs hm_ hk ecd hC2 e2 hfs H locs hP hD hS ls hl
            refine lv_iload hx hb dX12_tour_40 (lv_at hl 4 rfl) ?_
            refine lv_iload_n hx hb dX12_tour_42 rfl (lv_at hl 1 rfl) ?_
            refine geN (tgt := 104) hx hb (by omega) (by omega) dX12_tour_43 (by decide) (fun c43 => ?_) (fun c43 => ?_)
            · have hk9 : k = m := (by omega)
              have hcd : cd ≤ 1296 := (by rw [ecd, hk9]; exact pow6_le h_m)
              refine lv_iconst (v := (-1)) hx hb dX12_tour_104 (by decide) ?_
              refine lv_istore (lv' := [(4, .int (-1)), (0, .ref h), (1, .int (nI m)), (2, .int w0), (3, .int (nI cd))]) hx hb dX12_tour_105 hl (by decide) rfl (fun ls hl => ?_)
              refine lv_iconst (v := nI 0) hx hb dX12_tour_107 (by decide) ?_
              refine lv_istore (lv' := [(5, .int (nI 0)), (4, .int (-1)), (0, .ref h), (1, .int (nI m)), (2, .int w0), (3, .int (nI cd))]) hx hb dX12_tour_108 hl (by decide) rfl (fun ls hl => ?_)
              refine lv_iconst (v := nI 0) hx hb dX12_tour_110 (by decide) ?_
              refine lv_istore (lv' := [(6, .int (nI 0)), (5, .int (nI 0)), (4, .int (-1)), (0, .ref h), (1, .int (nI m)), (2, .int w0), (3, .int (nI cd))]) hx hb dX12_tour_111 hl (by decide) rfl (fun ls hl => ?_)
              have lp113 : ∀ f_ : Nat, ∀ (ce : Nat) (mo : Int32) (be : Nat), (cd - ce) < f_ → (ce ≤ cd) → ((mo, be) = tourN (svO (A 12) n) dr m ce) → ∀ (H : Heap) (locs : List Loc), va_P D vwCl (mW cy h r v (va_up (va_up A 14 f2) 23 fs)) H → va_D A_ (mW cy h r v (va_up (va_up A 14 f2) 23 fs)) → va_S A_ s_.heap H locs → ∀ ls : Array Slot, lv_has ls 14 [(0, .ref h), (1, .int (nI m)), (2, .int w0), (3, .int (nI cd)), (4, .int mo), (5, .int (nI be)), (6, .int (nI ce))] → W p_ l e_ (rmD 6) s_ m_ args_ below_ meth_ c_ H locs 0 0 Q_ (F0 m_ 113 ls []) := by
                intro f_
                induction f_ with
                | zero => intro ce mo be hm_; exact absurd hm_ (by omega)
                | succ f_ ih113 =>
                  intro ce mo be hm_ hce et H locs hP hD hS ls hl
                  refine lv_iload hx hb dX12_tour_113 (lv_at hl 6 rfl) ?_
                  refine lv_iload_n hx hb dX12_tour_115 rfl (lv_at hl 3 rfl) ?_
                  refine geN (tgt := 262) hx hb (by omega) (by omega) dX12_tour_116 (by decide) (fun c116 => ?_) (fun c116 => ?_)
                  · refine lv_iload_n hx hb dX12_tour_262 rfl (lv_at hl 2 rfl) ?_
                    refine lv_if_ne (tgt := 271) hx hb dX12_tour_263 (by decide) (fun c263 => ?_) (fun c263 => ?_)
                    · refine lv_iload hx hb dX12_tour_271 (lv_at hl 5 rfl) ?_
                      exact ret _ (va_up (va_up A 14 f2) 23 fs) _ _ _ _ dX12_tour_273 ⟨(by have he9 : ce = 6 ^ m := (by rw [← hk9, ← ecd]; omega); rw [mTour, if_neg (fun h => h c4), if_neg (fun h => h.elim (fun h => h c16) (fun h => h c25)), show cl (nI m) = m from e_m, ← he9, ← et]; first | (rw [if_pos c263]; done) | (rw [if_neg c263]; done)), (fun j h1 h2 h3 h4 => by simp [va_up, h1, h2, h3, h4])⟩ hP hD hS
                    · refine lv_iload hx hb dX12_tour_266 (lv_at hl 4 rfl) ?_
                      refine lv_goto (tgt := 273) hx hb dX12_tour_268 (by decide) ?_
                      exact ret _ (va_up (va_up A 14 f2) 23 fs) _ _ _ _ dX12_tour_273 ⟨(by have he9 : ce = 6 ^ m := (by rw [← hk9, ← ecd]; omega); rw [mTour, if_neg (fun h => h c4), if_neg (fun h => h.elim (fun h => h c16) (fun h => h c25)), show cl (nI m) = m from e_m, ← he9, ← et]; first | (rw [if_pos c263]; done) | (rw [if_neg c263]; done)), (fun j h1 h2 h3 h4 => by simp [va_up, h1, h2, h3, h4])⟩ hP hD hS
                  · refine lv_iload hx hb dX12_tour_119 (lv_at hl 6 rfl) ?_
                    refine lv_istore (lv' := [(7, .int (nI ce)), (0, .ref h), (1, .int (nI m)), (2, .int w0), (3, .int (nI cd)), (4, .int mo), (5, .int (nI be)), (6, .int (nI ce))]) hx hb dX12_tour_121 hl (by decide) rfl (fun ls hl => ?_)
                    refine lv_iconst (v := nI 0) hx hb dX12_tour_123 (by decide) ?_
                    refine lv_istore (lv' := [(8, .int (nI 0)), (7, .int (nI ce)), (0, .ref h), (1, .int (nI m)), (2, .int w0), (3, .int (nI cd)), (4, .int mo), (5, .int (nI be)), (6, .int (nI ce))]) hx hb dX12_tour_124 hl (by decide) rfl (fun ls hl => ?_)
                    refine lv_iconst (v := nI 0) hx hb dX12_tour_126 (by decide) ?_
                    refine lv_istore (lv' := [(9, .int (nI 0)), (8, .int (nI 0)), (7, .int (nI ce)), (0, .ref h), (1, .int (nI m)), (2, .int w0), (3, .int (nI cd)), (4, .int mo), (5, .int (nI be)), (6, .int (nI ce))]) hx hb dX12_tour_127 hl (by decide) rfl (fun ls hl => ?_)
                    refine lv_iconst (v := nI 1) hx hb dX12_tour_129 (by decide) ?_
                    refine lv_istore (lv' := [(10, .int (nI 1)), (9, .int (nI 0)), (8, .int (nI 0)), (7, .int (nI ce)), (0, .ref h), (1, .int (nI m)), (2, .int w0), (3, .int (nI cd)), (4, .int mo), (5, .int (nI be)), (6, .int (nI ce))]) hx hb dX12_tour_130 hl (by decide) rfl (fun ls hl => ?_)
                    refine lv_iconst (v := nI 1) hx hb dX12_tour_132 (by decide) ?_
                    refine lv_istore (lv' := [(11, .int (nI 1)), (10, .int (nI 1)), (9, .int (nI 0)), (8, .int (nI 0)), (7, .int (nI ce)), (0, .ref h), (1, .int (nI m)), (2, .int w0), (3, .int (nI cd)), (4, .int mo), (5, .int (nI be)), (6, .int (nI ce))]) hx hb dX12_tour_133 hl (by decide) rfl (fun ls hl => ?_)
                    refine lv_iload_n hx hb dX12_tour_135 rfl (lv_at hl 6 rfl) ?_
                    refine lv_iconst (v := nI 1) hx hb dX12_tour_136 (by decide) ?_
                    refine lv_isub hx hb dX12_tour_137 ?_
                    refine lv_istore (lv' := [(12, .int (nI m - nI 1)), (11, .int (nI 1)), (10, .int (nI 1)), (9, .int (nI 0)), (8, .int (nI 0)), (7, .int (nI ce)), (0, .ref h), (1, .int (nI m)), (2, .int w0), (3, .int (nI cd)), (4, .int mo), (5, .int (nI be)), (6, .int (nI ce))]) hx hb dX12_tour_138 hl (by decide) rfl (fun ls hl => ?_)
                    have lp140 : ∀ f_ : Nat, ∀ (j : Nat) (jj : Nat) (rs : Nat) (sx : Int32) (fg : Nat) (wo : Nat) (ik : Nat), (jj) < f_ → (j + jj = m) → (rs = ce / 6 ^ j) → (ik ≤ 1 ∧ (ik ≠ 0 ↔ okB dr ce j = true)) → (sx = setN (svO (A 12) n) dr m ce j) → (fg = figT ce j) → (wo = 10 ^ j) → ∀ (H : Heap) (locs : List Loc), va_P D vwCl (mW cy h r v (va_up (va_up A 14 f2) 23 fs)) H → va_D A_ (mW cy h r v (va_up (va_up A 14 f2) 23 fs)) → va_S A_ s_.heap H locs → ∀ ls : Array Slot, lv_has ls 14 [(0, .ref h), (1, .int (nI m)), (2, .int w0), (3, .int (nI cd)), (4, .int mo), (5, .int (nI be)), (6, .int (nI ce)), (7, .int (nI rs)), (8, .int sx), (9, .int (nI fg)), (10, .int (nI wo)), (11, .int (nI ik)), (12, .int (nI jj - nI 1))] → W p_ l e_ (rmD 6) s_ m_ args_ below_ meth_ c_ H locs 0 0 Q_ (F0 m_ 140 ls []) := by
                      intro f_
                      induction f_ with
                      | zero => intro j jj rs sx fg wo ik hm_; exact absurd hm_ (by omega)
                      | succ f_ ih140 =>
                        intro j jj rs sx fg wo ik hm_ hjj ers hok est efg ewo H locs hP hD hS ls hl
                        refine lv_iload hx hb dX12_tour_140 (lv_at hl 12 rfl) ?_
                        refine lv_if_lt (tgt := 230) hx hb dX12_tour_142 (by decide) (fun c142 => ?_) (fun c142 => ?_)
                        · have hjz : jj = 0 := (sub1_lt (by omega)).mp c142
                          refine lv_iload hx hb dX12_tour_230 (lv_at hl 11 rfl) ?_
                          refine ifeqN (tgt := 256) hx hb (by omega) dX12_tour_232 (by decide) (fun c232 => ?_) (fun c232 => ?_)
                          · refine lv_iinc (v := nI (ce + 1)) (lv' := [(6, .int (nI (ce + 1))), (0, .ref h), (1, .int (nI m)), (2, .int w0), (3, .int (nI cd)), (4, .int mo), (5, .int (nI be)), (7, .int (nI rs)), (8, .int sx), (9, .int (nI fg)), (10, .int (nI wo)), (11, .int (nI ik)), (12, .int (nI jj - nI 1))]) hx hb dX12_tour_256 hl (k := 6) rfl (nI_1 _) (by decide) rfl (fun ls hl => ?_)
                            refine lv_goto (tgt := 113) hx hb dX12_tour_259 (by decide) ?_
                            exact ih113 (ce + 1) mo be (by omega) (by omega) (by have hj9 : j = m := (by omega); rw [tourN, ← et]; subst hj9; rw [if_neg (fun h => by first | exact absurd c232 (hok.2.mpr h.1) | (rw [← est] at h; exact h.2 c242))]) _ _ hP hD hS ls (lv_sub hl [1, 2, 3, 4, 5, 6, 0] rfl)
                          · refine lv_iload hx hb dX12_tour_235 (lv_at hl 8 rfl) ?_
                            refine call_i (wr := [(h, .inr (11, mO r v)), ((r 0), wInt (cy 0) 8 (A 0)), ((r 1), wInt (cy 0) 8 (A 1)), ((r 2), wInt (cy 0) 320 (A 2)), ((r 5), wInt (cy 0) 60 (A 5)), ((r 12), wInt (cy 0) 37 (A 12)), ((r 13), wInt (cy 0) 37 (A 13)), ((r 14), wInt (cy 0) 37 f2), ((r 15), wInt (cy 0) 37 (A 15)), ((r 16), wInt (cy 0) 74 (A 16)), ((r 17), wInt (cy 1) 2 (A 17)), ((r 18), wInt (cy 0) 888 (A 18)), ((r 20), wInt (cy 0) 16 (A 20)), ((r 22), wInt (cy 0) 16 (A 22)), ((r 23), wInt (cy 0) 24 fs)]) (ws' := (fun _ : Unit => mW cy h r v (va_up (va_up A 14 f2) 23 fs))) (va_runS (As := [.int sx]) (rest := []) CF (k_X12_bits l D cy _ sx ) (va_cwS 1 hts gX12_tour_X12_bits rfl rfl rfl (by decide +kernel) ⟨Nat.le_of_ble_eq_true rfl, Nat.le_of_ble_eq_true rfl⟩) (pre_S hKN hP hD [] rfl (by decide)) rfl rfl hl.1 rfl (lv_room (Nat.le_of_ble_eq_true rfl)) dX12_tour_237 ⟨Nat.le_of_ble_eq_true rfl, Nat.le_of_ble_eq_true rfl⟩) hS hA hP hD [] [0, 1, 2, 3, 4, 5, 6, 7, 8, 9, 10, 11, 12, 13, 14] [0, 1, 2, 3, 4, 5, 6, 7, 8, 9, 10, 11, 12, 13, 14] rfl rfl (by decide) (by decide) (fun _ => rfl) (by decide) (fun r14 u13 H locs hw15 hP hD hS => ?_)
                            replace hw15 := hw15.symm; subst hw15
                            refine lv_iload hx hb dX12_tour_240 (lv_at hl 4 rfl) ?_
                            refine lv_icmp_le (tgt := 256) hx hb dX12_tour_242 (by decide) (fun c242 => ?_) (fun c242 => ?_)
                            · refine lv_iinc (v := nI (ce + 1)) (lv' := [(6, .int (nI (ce + 1))), (0, .ref h), (1, .int (nI m)), (2, .int w0), (3, .int (nI cd)), (4, .int mo), (5, .int (nI be)), (7, .int (nI rs)), (8, .int sx), (9, .int (nI fg)), (10, .int (nI wo)), (11, .int (nI ik)), (12, .int (nI jj - nI 1))]) hx hb dX12_tour_256 hl (k := 6) rfl (nI_1 _) (by decide) rfl (fun ls hl => ?_)
                              refine lv_goto (tgt := 113) hx hb dX12_tour_259 (by decide) ?_
                              exact ih113 (ce + 1) mo be (by omega) (by omega) (by have hj9 : j = m := (by omega); rw [tourN, ← et]; subst hj9; rw [if_neg (fun h => by first | exact absurd c232 (hok.2.mpr h.1) | (rw [← est] at h; exact h.2 c242))]) _ _ hP hD hS ls (lv_sub hl [1, 2, 3, 4, 5, 6, 0] rfl)
                            · refine lv_iload hx hb dX12_tour_245 (lv_at hl 8 rfl) ?_
                              refine call_i (wr := [(h, .inr (11, mO r v)), ((r 0), wInt (cy 0) 8 (A 0)), ((r 1), wInt (cy 0) 8 (A 1)), ((r 2), wInt (cy 0) 320 (A 2)), ((r 5), wInt (cy 0) 60 (A 5)), ((r 12), wInt (cy 0) 37 (A 12)), ((r 13), wInt (cy 0) 37 (A 13)), ((r 14), wInt (cy 0) 37 f2), ((r 15), wInt (cy 0) 37 (A 15)), ((r 16), wInt (cy 0) 74 (A 16)), ((r 17), wInt (cy 1) 2 (A 17)), ((r 18), wInt (cy 0) 888 (A 18)), ((r 20), wInt (cy 0) 16 (A 20)), ((r 22), wInt (cy 0) 16 (A 22)), ((r 23), wInt (cy 0) 24 fs)]) (ws' := (fun _ : Unit => mW cy h r v (va_up (va_up A 14 f2) 23 fs))) (va_runS (As := [.int sx]) (rest := []) CF (k_X12_bits l D cy _ sx ) (va_cwS 1 hts gX12_tour_X12_bits rfl rfl rfl (by decide +kernel) ⟨Nat.le_of_ble_eq_true rfl, Nat.le_of_ble_eq_true rfl⟩) (pre_S hKN hP hD [] rfl (by decide)) rfl rfl hl.1 rfl (lv_room (Nat.le_of_ble_eq_true rfl)) dX12_tour_247 ⟨Nat.le_of_ble_eq_true rfl, Nat.le_of_ble_eq_true rfl⟩) hS hA hP hD [] [0, 1, 2, 3, 4, 5, 6, 7, 8, 9, 10, 11, 12, 13, 14] [0, 1, 2, 3, 4, 5, 6, 7, 8, 9, 10, 11, 12, 13, 14] rfl rfl (by decide) (by decide) (fun _ => rfl) (by decide) (fun r17 u16 H locs hw18 hP hD hS => ?_)
                              replace hw18 := hw18.symm; subst hw18
                              refine lv_istore (lv' := [(4, .int (bitsN sx 8)), (0, .ref h), (1, .int (nI m)), (2, .int w0), (3, .int (nI cd)), (5, .int (nI be)), (6, .int (nI ce)), (7, .int (nI rs)), (8, .int sx), (9, .int (nI fg)), (10, .int (nI wo)), (11, .int (nI ik)), (12, .int (nI jj - nI 1))]) hx hb dX12_tour_250 hl (by decide) rfl (fun ls hl => ?_)
                              refine lv_iload hx hb dX12_tour_252 (lv_at hl 9 rfl) ?_
                              refine lv_istore (lv' := [(5, .int (nI fg)), (4, .int (bitsN sx 8)), (0, .ref h), (1, .int (nI m)), (2, .int w0), (3, .int (nI cd)), (6, .int (nI ce)), (7, .int (nI rs)), (8, .int sx), (9, .int (nI fg)), (10, .int (nI wo)), (11, .int (nI ik)), (12, .int (nI jj - nI 1))]) hx hb dX12_tour_254 hl (by decide) rfl (fun ls hl => ?_)
                              refine lv_iinc (v := nI (ce + 1)) (lv' := [(6, .int (nI (ce + 1))), (5, .int (nI fg)), (4, .int (bitsN sx 8)), (0, .ref h), (1, .int (nI m)), (2, .int w0), (3, .int (nI cd)), (7, .int (nI rs)), (8, .int sx), (9, .int (nI fg)), (10, .int (nI wo)), (11, .int (nI ik)), (12, .int (nI jj - nI 1))]) hx hb dX12_tour_256 hl (k := 6) rfl (nI_1 _) (by decide) rfl (fun ls hl => ?_)
                              refine lv_goto (tgt := 113) hx hb dX12_tour_259 (by decide) ?_
                              exact ih113 (ce + 1) (bitsN sx 8) fg (by omega) (by omega) (by have hj9 : j = m := (by omega); rw [tourN, ← et]; subst hj9; rw [if_pos ⟨hok.2.mp c232, (by rw [← est]; exact c242)⟩, ← est, ← efg]) _ _ hP hD hS ls (lv_sub hl [3, 4, 5, 6, 2, 1, 0] rfl)
                        · have hjp : 0 < jj := Nat.pos_of_ne_zero (fun q => c142 ((sub1_lt (by omega)).mpr q))
                          have ejj : nI jj - nI 1 = nI (jj - 1) := pk_sub hjp
                          rw [ejj] at hl
                          have dgj : rs % 6 = dig6 ce j := (by rw [ers]; rfl)
                          have h6 : rs % 6 < 6 := Nat.mod_lt _ (by decide)
                          have hrs : rs ≤ 1296 := (by rw [ers]; exact Nat.le_trans (Nat.div_le_self _ _) (by omega))
                          refine lv_iload hx hb dX12_tour_145 (lv_at hl 7 rfl) ?_
                          refine lv_bipush (v := nI 6) hx hb dX12_tour_147 (by decide) ?_
                          refine lv_irem hx hb dX12_tour_149 (by decide) ?_
                          refine top_i (y := nI (rs % 6)) (pk_rem (by omega) (by decide) (by decide)) ?_
                          refine lv_istore (lv' := [(13, .int (nI (rs % 6))), (0, .ref h), (1, .int (nI m)), (2, .int w0), (3, .int (nI cd)), (4, .int mo), (5, .int (nI be)), (6, .int (nI ce)), (7, .int (nI rs)), (8, .int sx), (9, .int (nI fg)), (10, .int (nI wo)), (11, .int (nI ik)), (12, .int (nI (jj - 1)))]) hx hb dX12_tour_150 hl (by decide) rfl (fun ls hl => ?_)
                          refine lv_iload hx hb dX12_tour_152 (lv_at hl 8 rfl) ?_
                          refine lv_bipush (v := nI 6) hx hb dX12_tour_154 (by decide) ?_
                          refine lv_idiv hx hb dX12_tour_156 (by decide) ?_
                          refine top_i (y := nI (rs / 6)) (pk_div (by omega) (by decide) (by decide)) ?_
                          refine lv_istore (lv' := [(7, .int (nI (rs / 6))), (13, .int (nI (rs % 6))), (0, .ref h), (1, .int (nI m)), (2, .int w0), (3, .int (nI cd)), (4, .int mo), (5, .int (nI be)), (6, .int (nI ce)), (8, .int sx), (9, .int (nI fg)), (10, .int (nI wo)), (11, .int (nI ik)), (12, .int (nI (jj - 1)))]) hx hb dX12_tour_157 hl (by decide) rfl (fun ls hl => ?_)
                          refine lv_iload hx hb dX12_tour_159 (lv_at hl 12 rfl) ?_
                          refine ifeqN (tgt := 177) hx hb (by omega) dX12_tour_161 (by decide) (fun c161 => ?_) (fun c161 => ?_)
                          · refine lv_iconst (v := nI 0) hx hb dX12_tour_177 (by decide) ?_
                            refine lv_istore (lv' := [(11, .int (nI 0)), (7, .int (nI (rs / 6))), (13, .int (nI (rs % 6))), (0, .ref h), (1, .int (nI m)), (2, .int w0), (3, .int (nI cd)), (4, .int mo), (5, .int (nI be)), (6, .int (nI ce)), (8, .int sx), (9, .int (nI fg)), (10, .int (nI wo)), (12, .int (nI (jj - 1)))]) hx hb dX12_tour_178 hl (by decide) rfl (fun ls hl => ?_)
                            refine lv_iload hx hb dX12_tour_180 (lv_at hl 10 rfl) ?_
                            refine lv_iload hx hb dX12_tour_182 (lv_at hl 0 rfl) ?_
                            refine lv_if_eq (tgt := 203) hx hb dX12_tour_184 (by decide) (fun c184 => ?_) (fun c184 => absurd c184 (by decide))
                            refine lv_iconst (v := nI 0) hx hb dX12_tour_203 (by decide) ?_
                            refine lv_ior hx hb dX12_tour_204 ?_
                            refine lv_istore (lv' := [(8, .int (sx ||| nI 0)), (11, .int (nI 0)), (7, .int (nI (rs / 6))), (13, .int (nI (rs % 6))), (0, .ref h), (1, .int (nI m)), (2, .int w0), (3, .int (nI cd)), (4, .int mo), (5, .int (nI be)), (6, .int (nI ce)), (9, .int (nI fg)), (10, .int (nI wo)), (12, .int (nI (jj - 1)))]) hx hb dX12_tour_205 hl (by decide) rfl (fun ls hl => ?_)
                            refine lv_iload hx hb dX12_tour_207 (lv_at hl 11 rfl) ?_
                            refine lv_iload hx hb dX12_tour_209 (lv_at hl 3 rfl) ?_
                            refine lv_iload hx hb dX12_tour_211 (lv_at hl 12 rfl) ?_
                            refine muN (k := (rs % 6) * wo) hx hb rfl dX12_tour_213 ?_
                            refine adN (k := fg + (rs % 6) * wo) hx hb rfl dX12_tour_214 ?_
                            refine lv_istore (lv' := [(9, .int (nI (fg + (rs % 6) * wo))), (8, .int (sx ||| nI 0)), (11, .int (nI 0)), (7, .int (nI (rs / 6))), (13, .int (nI (rs % 6))), (0, .ref h), (1, .int (nI m)), (2, .int w0), (3, .int (nI cd)), (4, .int mo), (5, .int (nI be)), (6, .int (nI ce)), (10, .int (nI wo)), (12, .int (nI (jj - 1)))]) hx hb dX12_tour_215 hl (by decide) rfl (fun ls hl => ?_)
                            refine lv_iload hx hb dX12_tour_217 (lv_at hl 12 rfl) ?_
                            refine lv_bipush (v := nI 10) hx hb dX12_tour_219 (by decide) ?_
                            refine muN (k := wo * 10) hx hb rfl dX12_tour_221 ?_
                            refine lv_istore (lv' := [(10, .int (nI (wo * 10))), (9, .int (nI (fg + (rs % 6) * wo))), (8, .int (sx ||| nI 0)), (11, .int (nI 0)), (7, .int (nI (rs / 6))), (13, .int (nI (rs % 6))), (0, .ref h), (1, .int (nI m)), (2, .int w0), (3, .int (nI cd)), (4, .int mo), (5, .int (nI be)), (6, .int (nI ce)), (12, .int (nI (jj - 1)))]) hx hb dX12_tour_222 hl (by decide) rfl (fun ls hl => ?_)
                            refine lv_iinc (v := (nI (jj - 1) - nI 1)) (lv' := [(12, .int (nI (jj - 1) - nI 1)), (10, .int (nI (wo * 10))), (9, .int (nI (fg + (rs % 6) * wo))), (8, .int (sx ||| nI 0)), (11, .int (nI 0)), (7, .int (nI (rs / 6))), (13, .int (nI (rs % 6))), (0, .ref h), (1, .int (nI m)), (2, .int w0), (3, .int (nI cd)), (4, .int mo), (5, .int (nI be)), (6, .int (nI ce))]) hx hb dX12_tour_224 hl (k := 13) rfl (inc_m1 _) (by decide) rfl (fun ls hl => ?_)
                            refine lv_goto (tgt := 140) hx hb dX12_tour_227 (by decide) ?_
                            exact ih140 (j + 1) (jj - 1) (rs / 6) (sx ||| nI 0) (fg + (rs % 6) * wo) (wo * 10) 0 (by omega) (by omega) (by rw [ers]; exact dig6_s _ _) (ok_0 (okB_n0 (fun q => absurd c161 (hok.2.mpr q)))) (by rw [setN, ← est, if_neg (okB_n0 (fun q => absurd c161 (hok.2.mpr q)))]) (by rw [figT, ← efg, ← dgj, ← ewo]) (by rw [ewo]; rfl) _ _ hP hD hS ls (lv_sub hl [7, 8, 9, 10, 11, 12, 13, 5, 3, 2, 1, 4, 0] rfl)
                          · refine lv_aload_n hx hb dX12_tour_164 rfl (lv_at hl 2 rfl) ?_
                            refine lv_iload hx hb dX12_tour_165 (lv_at hl 1 rfl) ?_
                            refine call_i (wr := []) (ws' := (fun _ : Unit => mW cy h r v (va_up (va_up A 14 f2) 23 fs))) (va_runV (As := [.int (nI (rs % 6))]) (rest := []) CF (k_X12_isDrawer l D cy _ h r v (va_up (va_up A 14 f2) 23 fs) (nI (rs % 6)) ) (cwV 1 hts gX12_tour_X12_isDrawer rfl rfl rfl (by decide +kernel) ⟨Nat.le_of_ble_eq_true rfl, Nat.le_of_ble_eq_true rfl⟩) (pre_V hKN hP hD [0, 1, 2, 3, 4, 5, 6, 7, 8, 9, 10, 11, 12, 13, 14] rfl (by decide) 0 11 rfl rfl) rfl rfl hl.1 rfl (lv_room (Nat.le_of_ble_eq_true rfl)) dX12_tour_167 ⟨Nat.le_of_ble_eq_true rfl, Nat.le_of_ble_eq_true rfl⟩) hS hA hP hD [0, 1, 2, 3, 4, 5, 6, 7, 8, 9, 10, 11, 12, 13, 14] [] [0, 1, 2, 3, 4, 5, 6, 7, 8, 9, 10, 11, 12, 13, 14] rfl rfl (by decide) (by decide) (fun _ => rfl) (by decide) (fun r20 u19 H locs hw21 hP hD hS => ?_)
                            replace hw21 := hw21.symm; subst hw21
                            refine ifeqB (tgt := 177) hx hb dX12_tour_170 (by decide) (fun c170 => ?_) (fun c170 => ?_)
                            · replace c170 : ¬ (nI 0 ≤ (nI (rs % 6)) ∧ (nI (rs % 6)) ≤ (A 12) 1 - nI 1) := c170
                              refine lv_iconst (v := nI 0) hx hb dX12_tour_177 (by decide) ?_
                              refine lv_istore (lv' := [(11, .int (nI 0)), (7, .int (nI (rs / 6))), (13, .int (nI (rs % 6))), (0, .ref h), (1, .int (nI m)), (2, .int w0), (3, .int (nI cd)), (4, .int mo), (5, .int (nI be)), (6, .int (nI ce)), (8, .int sx), (9, .int (nI fg)), (10, .int (nI wo)), (12, .int (nI (jj - 1)))]) hx hb dX12_tour_178 hl (by decide) rfl (fun ls hl => ?_)
                              refine lv_iload hx hb dX12_tour_180 (lv_at hl 10 rfl) ?_
                              refine lv_iload hx hb dX12_tour_182 (lv_at hl 0 rfl) ?_
                              refine lv_if_eq (tgt := 203) hx hb dX12_tour_184 (by decide) (fun c184 => ?_) (fun c184 => absurd c184 (by decide))
                              refine lv_iconst (v := nI 0) hx hb dX12_tour_203 (by decide) ?_
                              refine lv_ior hx hb dX12_tour_204 ?_
                              refine lv_istore (lv' := [(8, .int (sx ||| nI 0)), (11, .int (nI 0)), (7, .int (nI (rs / 6))), (13, .int (nI (rs % 6))), (0, .ref h), (1, .int (nI m)), (2, .int w0), (3, .int (nI cd)), (4, .int mo), (5, .int (nI be)), (6, .int (nI ce)), (9, .int (nI fg)), (10, .int (nI wo)), (12, .int (nI (jj - 1)))]) hx hb dX12_tour_205 hl (by decide) rfl (fun ls hl => ?_)
                              refine lv_iload hx hb dX12_tour_207 (lv_at hl 11 rfl) ?_
                              refine lv_iload hx hb dX12_tour_209 (lv_at hl 3 rfl) ?_
                              refine lv_iload hx hb dX12_tour_211 (lv_at hl 12 rfl) ?_
                              refine muN (k := (rs % 6) * wo) hx hb rfl dX12_tour_213 ?_
                              refine adN (k := fg + (rs % 6) * wo) hx hb rfl dX12_tour_214 ?_
                              refine lv_istore (lv' := [(9, .int (nI (fg + (rs % 6) * wo))), (8, .int (sx ||| nI 0)), (11, .int (nI 0)), (7, .int (nI (rs / 6))), (13, .int (nI (rs % 6))), (0, .ref h), (1, .int (nI m)), (2, .int w0), (3, .int (nI cd)), (4, .int mo), (5, .int (nI be)), (6, .int (nI ce)), (10, .int (nI wo)), (12, .int (nI (jj - 1)))]) hx hb dX12_tour_215 hl (by decide) rfl (fun ls hl => ?_)
                              refine lv_iload hx hb dX12_tour_217 (lv_at hl 12 rfl) ?_
                              refine lv_bipush (v := nI 10) hx hb dX12_tour_219 (by decide) ?_
                              refine muN (k := wo * 10) hx hb rfl dX12_tour_221 ?_
                              refine lv_istore (lv' := [(10, .int (nI (wo * 10))), (9, .int (nI (fg + (rs % 6) * wo))), (8, .int (sx ||| nI 0)), (11, .int (nI 0)), (7, .int (nI (rs / 6))), (13, .int (nI (rs % 6))), (0, .ref h), (1, .int (nI m)), (2, .int w0), (3, .int (nI cd)), (4, .int mo), (5, .int (nI be)), (6, .int (nI ce)), (12, .int (nI (jj - 1)))]) hx hb dX12_tour_222 hl (by decide) rfl (fun ls hl => ?_)
                              refine lv_iinc (v := (nI (jj - 1) - nI 1)) (lv' := [(12, .int (nI (jj - 1) - nI 1)), (10, .int (nI (wo * 10))), (9, .int (nI (fg + (rs % 6) * wo))), (8, .int (sx ||| nI 0)), (11, .int (nI 0)), (7, .int (nI (rs / 6))), (13, .int (nI (rs % 6))), (0, .ref h), (1, .int (nI m)), (2, .int w0), (3, .int (nI cd)), (4, .int mo), (5, .int (nI be)), (6, .int (nI ce))]) hx hb dX12_tour_224 hl (k := 13) rfl (inc_m1 _) (by decide) rfl (fun ls hl => ?_)
                              refine lv_goto (tgt := 140) hx hb dX12_tour_227 (by decide) ?_
                              exact ih140 (j + 1) (jj - 1) (rs / 6) (sx ||| nI 0) (fg + (rs % 6) * wo) (wo * 10) 0 (by omega) (by omega) (by rw [ers]; exact dig6_s _ _) (ok_0 (okB_n1 (fun q => c170 ((isDr_iff hd hd6 h6).mpr (by rw [dgj]; exact q))))) (by rw [setN, ← est, if_neg (okB_n1 (fun q => c170 ((isDr_iff hd hd6 h6).mpr (by rw [dgj]; exact q))))]) (by rw [figT, ← efg, ← dgj, ← ewo]) (by rw [ewo]; rfl) _ _ hP hD hS ls (lv_sub hl [7, 8, 9, 10, 11, 12, 13, 5, 3, 2, 1, 4, 0] rfl)
                            · replace c170 : (nI 0 ≤ (nI (rs % 6)) ∧ (nI (rs % 6)) ≤ (A 12) 1 - nI 1) := c170
                              refine lv_iconst (v := nI 1) hx hb dX12_tour_173 (by decide) ?_
                              refine lv_goto (tgt := 178) hx hb dX12_tour_174 (by decide) ?_
                              refine lv_istore (lv' := [(11, .int (nI 1)), (7, .int (nI (rs / 6))), (13, .int (nI (rs % 6))), (0, .ref h), (1, .int (nI m)), (2, .int w0), (3, .int (nI cd)), (4, .int mo), (5, .int (nI be)), (6, .int (nI ce)), (8, .int sx), (9, .int (nI fg)), (10, .int (nI wo)), (12, .int (nI (jj - 1)))]) hx hb dX12_tour_178 hl (by decide) rfl (fun ls hl => ?_)
                              refine lv_iload hx hb dX12_tour_180 (lv_at hl 10 rfl) ?_
                              refine lv_iload hx hb dX12_tour_182 (lv_at hl 0 rfl) ?_
                              refine lv_if_eq (tgt := 203) hx hb dX12_tour_184 (by decide) (fun c184 => absurd c184 (by decide)) (fun c184 => ?_)
                              refine lv_aload_n hx hb dX12_tour_187 rfl (lv_at hl 3 rfl) ?_
                              refine va_get (ci := 11) (v := .ref (r 23)) (C := RX12) (T := TX12) (N := 24) hx hb hts hinX12 hown hK hP 0 rfl rfl 23 (by decide) hf50 (fun _ h9 => h9) rfl dX12_tour_188 ?_
                              refine lv_bipush (v := nI 6) hx hb dX12_tour_191 (by decide) ?_
                              refine lv_iload hx hb dX12_tour_193 (lv_at hl 13 rfl) ?_
                              refine muN (k := 6 * (jj - 1)) hx hb rfl dX12_tour_195 ?_
                              refine lv_iload hx hb dX12_tour_196 (lv_at hl 2 rfl) ?_
                              refine adN (k := 6 * (jj - 1) + rs % 6) hx hb rfl dX12_tour_198 ?_
                              refine ldN (f := fs) hx hb hK hP 14 rfl (j := 6 * (jj - 1) + rs % 6) (by omega) (by decide) dX12_tour_199 ?_
                              refine lv_goto (tgt := 204) hx hb dX12_tour_200 (by decide) ?_
                              refine lv_ior hx hb dX12_tour_204 ?_
                              refine lv_istore (lv' := [(8, .int (sx ||| fs (6 * (jj - 1) + rs % 6))), (11, .int (nI 1)), (7, .int (nI (rs / 6))), (13, .int (nI (rs % 6))), (0, .ref h), (1, .int (nI m)), (2, .int w0), (3, .int (nI cd)), (4, .int mo), (5, .int (nI be)), (6, .int (nI ce)), (9, .int (nI fg)), (10, .int (nI wo)), (12, .int (nI (jj - 1)))]) hx hb dX12_tour_205 hl (by decide) rfl (fun ls hl => ?_)
                              refine lv_iload hx hb dX12_tour_207 (lv_at hl 11 rfl) ?_
                              refine lv_iload hx hb dX12_tour_209 (lv_at hl 3 rfl) ?_
                              refine lv_iload hx hb dX12_tour_211 (lv_at hl 12 rfl) ?_
                              refine muN (k := (rs % 6) * wo) hx hb rfl dX12_tour_213 ?_
                              refine adN (k := fg + (rs % 6) * wo) hx hb rfl dX12_tour_214 ?_
                              refine lv_istore (lv' := [(9, .int (nI (fg + (rs % 6) * wo))), (8, .int (sx ||| fs (6 * (jj - 1) + rs % 6))), (11, .int (nI 1)), (7, .int (nI (rs / 6))), (13, .int (nI (rs % 6))), (0, .ref h), (1, .int (nI m)), (2, .int w0), (3, .int (nI cd)), (4, .int mo), (5, .int (nI be)), (6, .int (nI ce)), (10, .int (nI wo)), (12, .int (nI (jj - 1)))]) hx hb dX12_tour_215 hl (by decide) rfl (fun ls hl => ?_)
                              refine lv_iload hx hb dX12_tour_217 (lv_at hl 12 rfl) ?_
                              refine lv_bipush (v := nI 10) hx hb dX12_tour_219 (by decide) ?_
                              refine muN (k := wo * 10) hx hb rfl dX12_tour_221 ?_
                              refine lv_istore (lv' := [(10, .int (nI (wo * 10))), (9, .int (nI (fg + (rs % 6) * wo))), (8, .int (sx ||| fs (6 * (jj - 1) + rs % 6))), (11, .int (nI 1)), (7, .int (nI (rs / 6))), (13, .int (nI (rs % 6))), (0, .ref h), (1, .int (nI m)), (2, .int w0), (3, .int (nI cd)), (4, .int mo), (5, .int (nI be)), (6, .int (nI ce)), (12, .int (nI (jj - 1)))]) hx hb dX12_tour_222 hl (by decide) rfl (fun ls hl => ?_)
                              refine lv_iinc (v := (nI (jj - 1) - nI 1)) (lv' := [(12, .int (nI (jj - 1) - nI 1)), (10, .int (nI (wo * 10))), (9, .int (nI (fg + (rs % 6) * wo))), (8, .int (sx ||| fs (6 * (jj - 1) + rs % 6))), (11, .int (nI 1)), (7, .int (nI (rs / 6))), (13, .int (nI (rs % 6))), (0, .ref h), (1, .int (nI m)), (2, .int w0), (3, .int (nI cd)), (4, .int mo), (5, .int (nI be)), (6, .int (nI ce))]) hx hb dX12_tour_224 hl (k := 13) rfl (inc_m1 _) (by decide) rfl (fun ls hl => ?_)
                              refine lv_goto (tgt := 140) hx hb dX12_tour_227 (by decide) ?_
                              exact ih140 (j + 1) (jj - 1) (rs / 6) (sx ||| fs (6 * (jj - 1) + rs % 6)) (fg + (rs % 6) * wo) (wo * 10) 1 (by omega) (by omega) (by rw [ers]; exact dig6_s _ _) (ok_1 (okB_y (hok.2.mp c161) (by rw [← dgj]; exact (isDr_iff hd hd6 h6).mp c170))) (by rw [setN, ← est, if_pos (okB_y (hok.2.mp c161) (by rw [← dgj]; exact (isDr_iff hd hd6 h6).mp c170)), ← dgj, hfs (jj - 1) (by omega) _ ((isDr_iff hd hd6 h6).mp c170), show m - 1 - j = jj - 1 by omega]) (by rw [figT, ← efg, ← dgj, ← ewo]) (by rw [ewo]; rfl) _ _ hP hD hS ls (lv_sub hl [7, 8, 9, 10, 11, 12, 13, 5, 3, 2, 1, 4, 0] rfl)
                    exact lp140 (m + 1) 0 m ce (nI 0) 0 1 1 (by omega) (by omega) (dig6_0 _).symm (ok_1 rfl) rfl rfl rfl _ _ hP hD hS ls (lv_sub hl [6, 7, 8, 9, 10, 11, 12, 5, 4, 3, 2, 1, 0] rfl)
              exact lp113 (cd - 0 + 1) 0 (-1) 0 (by omega) (by omega) rfl _ _ hP hD hS ls (lv_sub hl [3, 4, 5, 6, 2, 1, 0] rfl)
            · refine lv_iconst (v := nI 0) hx hb dX12_tour_46 (by decide) ?_
              refine lv_istore (lv' := [(5, .int (nI 0)), (0, .ref h), (1, .int (nI m)), (2, .int w0), (3, .int (nI cd)), (4, .int (nI k))]) hx hb dX12_tour_47 hl (by decide) rfl (fun ls hl => ?_)
              have lp49 : ∀ f_ : Nat, ∀ (dd : Nat) (fs : Nat → Int32), (dr - dd) < f_ → (dd ≤ dr) → (∀ k1, k1 < k → ∀ d1, d1 < dr → fs (6 * k1 + d1) = svO (A 12) n k1 d1) → (∀ d1, d1 < dd → fs (6 * k + d1) = svO (A 12) n k d1) → ∀ (H : Heap) (locs : List Loc), va_P D vwCl (mW cy h r v (va_up (va_up A 14 f2) 23 fs)) H → va_D A_ (mW cy h r v (va_up (va_up A 14 f2) 23 fs)) → va_S A_ s_.heap H locs → ∀ ls : Array Slot, lv_has ls 14 [(0, .ref h), (1, .int (nI m)), (2, .int w0), (3, .int (nI cd)), (4, .int (nI k)), (5, .int (nI dd))] → W p_ l e_ (rmD 6) s_ m_ args_ below_ meth_ c_ H locs 0 0 Q_ (F0 m_ 49 ls []) := by
                intro f_
                induction f_ with
                | zero => intro dd fs hm_; exact absurd hm_ (by omega)
                | succ f_ ih49 =>
                  intro dd fs hm_ hdd hfs2 hfd H locs hP hD hS ls hl
                  refine lv_iload hx hb dX12_tour_49 (lv_at hl 5 rfl) ?_
                  refine lv_aload_n hx hb dX12_tour_51 rfl (lv_at hl 0 rfl) ?_
                  refine va_get (ci := 11) (v := .ref (r 12)) (C := RX12) (T := TX12) (N := 24) hx hb hts hinX12 hown hK hP 0 rfl rfl 12 (by decide) hf22 (fun _ h9 => h9) rfl dX12_tour_52 ?_
                  refine lv_iconst (v := nI 1) hx hb dX12_tour_55 (by decide) ?_
                  refine ldN (f := (A 12)) hx hb hK hP 5 rfl (j := 1) (by omega) (by decide) dX12_tour_56 ?_
                  refine top_i hd ?_
                  refine geN (tgt := 88) hx hb (by omega) (by omega) dX12_tour_57 (by decide) (fun c57 => ?_) (fun c57 => ?_)
                  · refine lv_iload_n hx hb dX12_tour_88 rfl (lv_at hl 3 rfl) ?_
                    refine lv_bipush (v := nI 6) hx hb dX12_tour_89 (by decide) ?_
                    refine muN (k := cd * 6) hx hb rfl dX12_tour_91 ?_
                    refine lv_istore_n (lv' := [(3, .int (nI (cd * 6))), (0, .ref h), (1, .int (nI m)), (2, .int w0), (4, .int (nI k)), (5, .int (nI dd))]) hx hb dX12_tour_92 rfl hl (by decide) rfl (fun ls hl => ?_)
                    refine lv_aload_n hx hb dX12_tour_93 rfl (lv_at hl 1 rfl) ?_
                    refine lv_iconst (v := nI 1) hx hb dX12_tour_94 (by decide) ?_
                    refine call_v (wr := []) (ws' := (fun u22 : (Nat → Int32) => mW cy h r v (va_up (va_up A 23 fs) 14 u22))) (va_runV (As := [.int (nI 1)]) (rest := []) CF (k_X12_goOn l D cy _ h r v (va_up (va_up A 14 f2) 23 fs) 1 n (by first | assumption | omega | decide) hC2) (cwV 1 hts gX12_tour_X12_goOn rfl rfl rfl (by decide +kernel) ⟨Nat.le_of_ble_eq_true rfl, Nat.le_of_ble_eq_true rfl⟩) (pre_V hKN hP hD [0, 1, 2, 3, 4, 5, 6, 7, 8, 9, 10, 11, 12, 13, 14] rfl (by decide) 0 11 rfl rfl) rfl rfl hl.1 rfl (lv_room (Nat.le_of_ble_eq_true rfl)) dX12_tour_95 ⟨Nat.le_of_ble_eq_true rfl, Nat.le_of_ble_eq_true rfl⟩) hS hA hP hD [0, 1, 2, 3, 4, 5, 6, 7, 8, 9, 10, 11, 12, 13, 14] [] [0, 1, 2, 3, 4, 5, 6, 7, 8, 9, 10, 11, 12, 13, 14] rfl rfl (by decide) (by decide) (fun _ => rfl) (by decide) (fun u22 H locs hw24 hP hD hS => ?_)
                    replace hw24 := hw24.symm; subst hw24
                    have hP : va_P D vwCl (mW cy h r v (va_up (va_up A 23 fs) 14 (nightsS (f2) n 1))) H := hP
                    have hD : va_D A_ (mW cy h r v (va_up (va_up A 23 fs) 14 (nightsS (f2) n 1))) := hD
                    refine lv_iinc (v := nI (k + 1)) (lv' := [(4, .int (nI (k + 1))), (3, .int (nI (cd * 6))), (0, .ref h), (1, .int (nI m)), (2, .int w0), (5, .int (nI dd))]) hx hb dX12_tour_98 hl (k := 4) rfl (nI_1 _) (by decide) rfl (fun ls hl => ?_)
                    refine lv_goto (tgt := 40) hx hb dX12_tour_101 (by decide) ?_
                    exact ih40 (k + 1) (cd * 6) (nightsS (f2) n 1) fs (by omega) (by omega) (by rw [ecd]; rfl) (hC2.night _) (by rw [e2]; rfl) (fun k1 q1 d1 q2 => by rcases Nat.lt_or_ge k1 k with q | q; exact hfs2 k1 q d1 q2; rw [show k1 = k by omega]; exact hfd d1 (by omega)) _ _ hP hD hS ls (lv_sub hl [2, 3, 4, 1, 0] rfl)
                  · refine lv_aload_n hx hb dX12_tour_60 rfl (lv_at hl 0 rfl) ?_
                    refine va_get (ci := 11) (v := .ref (r 23)) (C := RX12) (T := TX12) (N := 24) hx hb hts hinX12 hown hK hP 0 rfl rfl 23 (by decide) hf50 (fun _ h9 => h9) rfl dX12_tour_61 ?_
                    refine lv_bipush (v := nI 6) hx hb dX12_tour_64 (by decide) ?_
                    refine lv_iload hx hb dX12_tour_66 (lv_at hl 4 rfl) ?_
                    refine muN (k := 6 * k) hx hb rfl dX12_tour_68 ?_
                    refine lv_iload hx hb dX12_tour_69 (lv_at hl 5 rfl) ?_
                    refine adN (k := 6 * k + dd) hx hb rfl dX12_tour_71 ?_
                    refine lv_aload_n hx hb dX12_tour_72 rfl (lv_at hl 0 rfl) ?_
                    refine va_get (ci := 11) (v := .ref (r 14)) (C := RX12) (T := TX12) (N := 24) hx hb hts hinX12 hown hK hP 0 rfl rfl 14 (by decide) hf28 (fun _ h9 => h9) rfl dX12_tour_73 ?_
                    refine lv_iload hx hb dX12_tour_76 (lv_at hl 5 rfl) ?_
                    refine call_i (wr := [(h, .inr (11, mO r v)), ((r 0), wInt (cy 0) 8 (A 0)), ((r 1), wInt (cy 0) 8 (A 1)), ((r 2), wInt (cy 0) 320 (A 2)), ((r 5), wInt (cy 0) 60 (A 5)), ((r 12), wInt (cy 0) 37 (A 12)), ((r 13), wInt (cy 0) 37 (A 13)), ((r 15), wInt (cy 0) 37 (A 15)), ((r 16), wInt (cy 0) 74 (A 16)), ((r 17), wInt (cy 1) 2 (A 17)), ((r 18), wInt (cy 0) 888 (A 18)), ((r 20), wInt (cy 0) 16 (A 20)), ((r 22), wInt (cy 0) 16 (A 22)), ((r 23), wInt (cy 0) 24 fs)]) (ws' := (fun _ : Unit => mW cy h r v (va_up (va_up A 14 f2) 23 fs))) (va_runS (As := [.ref (r 14), .int (nI dd)]) (rest := [.int (nI (6 * k + dd)), .ref (r 23)]) CF (k_X12_cardsIn l D cy _ (r 14) f2 (nI dd) n (by first | assumption | omega | decide) hC2.1) (va_cwS 2 hts gX12_tour_X12_cardsIn rfl rfl rfl (by decide +kernel) ⟨Nat.le_of_ble_eq_true rfl, Nat.le_of_ble_eq_true rfl⟩) (pre_S hKN hP hD [7] rfl (by decide)) rfl rfl hl.1 rfl (lv_room (Nat.le_of_ble_eq_true rfl)) dX12_tour_78 ⟨Nat.le_of_ble_eq_true rfl, Nat.le_of_ble_eq_true rfl⟩) hS hA hP hD [7] [0, 1, 2, 3, 4, 5, 6, 8, 9, 10, 11, 12, 13, 14] [0, 1, 2, 3, 4, 5, 6, 14, 7, 8, 9, 10, 11, 12, 13] rfl rfl (by decide) (by decide) (fun _ => rfl) (by decide) (fun r26 u25 H locs hw27 hP hD hS => ?_)
                    replace hw27 := hw27.symm; subst hw27
                    refine stN (f := fs) (ws' := mW cy h r v (va_up (va_up A 14 f2) 23 (upd fs (6 * k + dd) (cardsN f2 (nI dd) n)))) hx hb hK hP hD hS 14 rfl (j := 6 * k + dd) (by omega) (by decide) dX12_tour_81 rfl (fun H locs hP hD hS => ?_)
                    refine lv_iinc (v := nI (dd + 1)) (lv' := [(5, .int (nI (dd + 1))), (0, .ref h), (1, .int (nI m)), (2, .int w0), (3, .int (nI cd)), (4, .int (nI k))]) hx hb dX12_tour_82 hl (k := 5) rfl (nI_1 _) (by decide) rfl (fun ls hl => ?_)
                    refine lv_goto (tgt := 49) hx hb dX12_tour_85 (by decide) ?_
                    exact ih49 (dd + 1) (upd fs (6 * k + dd) (cardsN f2 (nI dd) n)) (by omega) (by omega) (fun k1 q1 d1 q2 => by rw [pk_un (by omega)]; exact hfs2 k1 q1 d1 q2) (fun d1 q1 => by rcases Nat.lt_or_ge d1 dd with q | q; rw [pk_un (by omega)]; exact hfd d1 q; rw [show d1 = dd by omega, pk_us, e2]; rfl) _ _ hP hD hS ls (lv_sub hl [1, 2, 3, 4, 5, 0] rfl)
              exact lp49 (dr - 0 + 1) 0 fs (by omega) (by omega) hfs (fun _ q => absurd q (by omega)) _ _ hP hD hS ls (lv_sub hl [1, 2, 3, 4, 5, 0] rfl)
        exact lp40 (m - 0 + 1) 0 1 (A 12) (A 23) (by omega) (by omega) rfl hC rfl (fun _ q => absurd q (by omega)) _ _ hP hD hS ls (lv_sub hl [2, 3, 4, 1, 0] rfl)
      · replace c25 : ¬ ((nI 0) ≤ w0 ∧ w0 ≤ (nI 1)) := c25
        refine lv_ldc hx hb hown hc66 dX12_tour_28 ?_
        exact ret _ A _ _ _ _ dX12_tour_30 ⟨(by simp [-not_and, -Int32.not_le, -Int32.not_lt, noOne, noDr, mTour, c4, c16, e_m, c25]), (fun j h1 h2 h3 h4 => by simp [va_up, h1, h2, h3, h4])⟩ hP hD hS
  · replace c4 : ¬ ((A 12) 4 = nI 1) := c4
    refine lv_ldc hx hb hown hc172 dX12_tour_7 ?_
    exact ret _ A _ _ _ _ dX12_tour_9 ⟨(by simp [-not_and, -Int32.not_le, -Int32.not_lt, noOne, noDr, mTour, c4]), (fun j h1 h2 h3 h4 => by simp [va_up, h1, h2, h3, h4])⟩ hP hD hS
