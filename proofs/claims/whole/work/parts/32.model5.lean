set_option maxHeartbeats 4000000 in
set_option maxRecDepth 100000 in
theorem k_X12_rods (l : Launch) (D : va_G) (cy : Nat → ClassId) (sz : Nat) (h : Nat) (r : Nat → Nat) (v : Nat → Int32) (A : Nat → Nat → Int32) (n : Nat) (x : Int32) (d0 : Int32) (m0 : Int32) (w0 : Int32) (hC : Cat (A 12) n) : Met l yX12_rods wsX12_rods (rmD 6) (pPre D (TY cy) (mW cy h r v A) sz [.ref h, .int x, .int d0, .int m0, .int w0]) (pI D (TY cy) (mW cy h r v A) sz (fun A2 : Nat → Nat → Int32 => mW cy h r v A2) (fun (r_ : Int32) (u : (Nat → Nat → Int32)) => r_ = mRods A n x d0 m0 w0 ∧ scr u A)) 0 0 (va_A (mW cy h r v A) sz) := by
  refine ent_i (cc := cX12_rods) (maxL := 8) (by decide +kernel) rfl (Nat.le_of_ble_eq_true rfl) ?_
  intro p_ e_ s_ m_ args_ below_ meth_ c_ A_ Q_ ls B0 ret
  obtain ⟨CF, hA, hKN, hP, hD, hl⟩ := B0
  have hK := hKN.1
  obtain ⟨hx, hb, hml, hown, hts⟩ := id CF
  have hS : va_S A_ s_.heap s_.heap [] := va_S.rf
  have hl : lv_has ls 8 [(0, .ref h), (1, .int x), (2, .int d0), (3, .int m0), (4, .int w0)] := hl
  have hc66 := hts (.constant RX12 66 (-1000001)) (by decide +kernel)
  have hc137 := hts (.constant RX12 137 (-1000000)) (by decide +kernel)
  have hf22 := hts (.fieldLink RX12 22 "DrawerCardsModel" "now" "[I") (by decide +kernel)
  have hinX12 := show ∀ w ∈ u_ws RX12 TX12 24, w ∈ wsX12_rods from by decide +kernel
  have hf28 := hts (.fieldLink RX12 28 "DrawerCardsModel" "tried" "[I") (by decide +kernel)
  have hn := hC.2.1
  obtain ⟨z2, hz2⟩ : ∃ z, z = 2 ^ n := ⟨_, rfl⟩
  have hz3 : z2 ≤ 256 := hz2 ▸ pow2_le hn
  refine lv_aload_n hx hb dX12_rods_0 rfl (lv_at hl 0 rfl) ?_
  refine lv_iload_n hx hb dX12_rods_1 rfl (lv_at hl 1 rfl) ?_
  refine call_i (wr := []) (ws' := (fun _ : Unit => mW cy h r v A)) (va_runV (As := [.int x]) (rest := []) CF (k_X12_isOne l D cy _ h r v A x ) (cwV 1 hts gX12_rods_X12_isOne rfl rfl rfl (by decide +kernel) ⟨Nat.le_of_ble_eq_true rfl, Nat.le_of_ble_eq_true rfl⟩) (pre_V hKN hP hD [0, 1, 2, 3, 4, 5, 6, 7, 8, 9, 10, 11, 12, 13, 14] rfl (by decide) 0 11 rfl rfl) rfl rfl hl.1 rfl (lv_room (Nat.le_of_ble_eq_true rfl)) dX12_rods_2 ⟨Nat.le_of_ble_eq_true rfl, Nat.le_of_ble_eq_true rfl⟩) hS hA hP hD [0, 1, 2, 3, 4, 5, 6, 7, 8, 9, 10, 11, 12, 13, 14] [] [0, 1, 2, 3, 4, 5, 6, 7, 8, 9, 10, 11, 12, 13, 14] rfl rfl (by decide) (by decide) (fun _ => rfl) (by decide) (fun r2 u1 H locs hw3 hP hD hS => ?_)
  replace hw3 := hw3.symm; subst hw3
  refine ifeqB (tgt := 36) hx hb dX12_rods_5 (by decide) (fun c5 => ?_) (fun c5 => ?_)
  · refine lv_ldc hx hb hown hc66 dX12_rods_36 ?_
    exact ret _ A _ _ _ _ dX12_rods_38 ⟨(by simp [-not_and, -Int32.not_le, -Int32.not_lt, noOne, noDr, mRods, c5]), (fun j h1 h2 h3 h4 => by simp [va_up, h1, h2, h3, h4])⟩ hP hD hS
  · obtain ⟨k, h_k, rfl⟩ := rng' (m := n) (by omega) (by rw [← hC.1]; exact c5)
    have e_k : (nI k).toNatClampNeg = k := nI_clamp (by omega)
    refine lv_aload_n hx hb dX12_rods_8 rfl (lv_at hl 0 rfl) ?_
    refine lv_iload_n hx hb dX12_rods_9 rfl (lv_at hl 2 rfl) ?_
    refine call_i (wr := []) (ws' := (fun _ : Unit => mW cy h r v A)) (va_runV (As := [.int d0]) (rest := []) CF (k_X12_isDrawer l D cy _ h r v A d0 ) (cwV 1 hts gX12_rods_X12_isDrawer rfl rfl rfl (by decide +kernel) ⟨Nat.le_of_ble_eq_true rfl, Nat.le_of_ble_eq_true rfl⟩) (pre_V hKN hP hD [0, 1, 2, 3, 4, 5, 6, 7, 8, 9, 10, 11, 12, 13, 14] rfl (by decide) 0 11 rfl rfl) rfl rfl hl.1 rfl (lv_room (Nat.le_of_ble_eq_true rfl)) dX12_rods_10 ⟨Nat.le_of_ble_eq_true rfl, Nat.le_of_ble_eq_true rfl⟩) hS hA hP hD [0, 1, 2, 3, 4, 5, 6, 7, 8, 9, 10, 11, 12, 13, 14] [] [0, 1, 2, 3, 4, 5, 6, 7, 8, 9, 10, 11, 12, 13, 14] rfl rfl (by decide) (by decide) (fun _ => rfl) (by decide) (fun r5 u4 H locs hw6 hP hD hS => ?_)
    replace hw6 := hw6.symm; subst hw6
    refine ifeqB (tgt := 36) hx hb dX12_rods_13 (by decide) (fun c13 => ?_) (fun c13 => ?_)
    · refine lv_ldc hx hb hown hc66 dX12_rods_36 ?_
      exact ret _ A _ _ _ _ dX12_rods_38 ⟨(by simp [-not_and, -Int32.not_le, -Int32.not_lt, noOne, noDr, mRods, c5, e_k, c13]), (fun j h1 h2 h3 h4 => by simp [va_up, h1, h2, h3, h4])⟩ hP hD hS
    · refine lv_iload_n hx hb dX12_rods_16 rfl (lv_at hl 3 rfl) ?_
      refine lv_iconst (v := nI 1) hx hb dX12_rods_17 (by decide) ?_
      refine lv_bipush (v := nI 20) hx hb dX12_rods_18 (by decide) ?_
      refine call_i (wr := [(h, .inr (11, mO r v)), ((r 0), wInt (cy 0) 8 (A 0)), ((r 1), wInt (cy 0) 8 (A 1)), ((r 2), wInt (cy 0) 320 (A 2)), ((r 5), wInt (cy 0) 60 (A 5)), ((r 12), wInt (cy 0) 37 (A 12)), ((r 13), wInt (cy 0) 37 (A 13)), ((r 14), wInt (cy 0) 37 (A 14)), ((r 15), wInt (cy 0) 37 (A 15)), ((r 16), wInt (cy 0) 74 (A 16)), ((r 17), wInt (cy 1) 2 (A 17)), ((r 18), wInt (cy 0) 888 (A 18)), ((r 20), wInt (cy 0) 16 (A 20)), ((r 22), wInt (cy 0) 16 (A 22)), ((r 23), wInt (cy 0) 24 (A 23))]) (ws' := (fun _ : Unit => mW cy h r v A)) (va_runS (As := [.int m0, .int (nI 1), .int (nI 20)]) (rest := []) CF (k_X12_in l D cy _ m0 (nI 1) (nI 20) ) (va_cwS 3 hts gX12_rods_X12_in rfl rfl rfl (by decide +kernel) ⟨Nat.le_of_ble_eq_true rfl, Nat.le_of_ble_eq_true rfl⟩) (pre_S hKN hP hD [] rfl (by decide)) rfl rfl hl.1 rfl (lv_room (Nat.le_of_ble_eq_true rfl)) dX12_rods_20 ⟨Nat.le_of_ble_eq_true rfl, Nat.le_of_ble_eq_true rfl⟩) hS hA hP hD [] [0, 1, 2, 3, 4, 5, 6, 7, 8, 9, 10, 11, 12, 13, 14] [0, 1, 2, 3, 4, 5, 6, 7, 8, 9, 10, 11, 12, 13, 14] rfl rfl (by decide) (by decide) (fun _ => rfl) (by decide) (fun r8 u7 H locs hw9 hP hD hS => ?_)
      replace hw9 := hw9.symm; subst hw9
      refine ifeqB (tgt := 36) hx hb dX12_rods_23 (by decide) (fun c23 => ?_) (fun c23 => ?_)
      · refine lv_ldc hx hb hown hc66 dX12_rods_36 ?_
        exact ret _ A _ _ _ _ dX12_rods_38 ⟨(by simp [-not_and, -Int32.not_le, -Int32.not_lt, noOne, noDr, mRods, c5, e_k, c13, c23]), (fun j h1 h2 h3 h4 => by simp [va_up, h1, h2, h3, h4])⟩ hP hD hS
      · obtain ⟨m, h_m, rfl⟩ := rng (m := 20) (by decide) ⟨Int32.le_trans (by decide) c23.1, c23.2⟩
        have e_m : (nI m).toNatClampNeg = m := nI_clamp (by omega)
        refine lv_iload hx hb dX12_rods_26 (lv_at hl 4 rfl) ?_
        refine lv_iconst (v := nI 0) hx hb dX12_rods_28 (by decide) ?_
        refine lv_iconst (v := nI 1) hx hb dX12_rods_29 (by decide) ?_
        refine call_i (wr := [(h, .inr (11, mO r v)), ((r 0), wInt (cy 0) 8 (A 0)), ((r 1), wInt (cy 0) 8 (A 1)), ((r 2), wInt (cy 0) 320 (A 2)), ((r 5), wInt (cy 0) 60 (A 5)), ((r 12), wInt (cy 0) 37 (A 12)), ((r 13), wInt (cy 0) 37 (A 13)), ((r 14), wInt (cy 0) 37 (A 14)), ((r 15), wInt (cy 0) 37 (A 15)), ((r 16), wInt (cy 0) 74 (A 16)), ((r 17), wInt (cy 1) 2 (A 17)), ((r 18), wInt (cy 0) 888 (A 18)), ((r 20), wInt (cy 0) 16 (A 20)), ((r 22), wInt (cy 0) 16 (A 22)), ((r 23), wInt (cy 0) 24 (A 23))]) (ws' := (fun _ : Unit => mW cy h r v A)) (va_runS (As := [.int w0, .int (nI 0), .int (nI 1)]) (rest := []) CF (k_X12_in l D cy _ w0 (nI 0) (nI 1) ) (va_cwS 3 hts gX12_rods_X12_in rfl rfl rfl (by decide +kernel) ⟨Nat.le_of_ble_eq_true rfl, Nat.le_of_ble_eq_true rfl⟩) (pre_S hKN hP hD [] rfl (by decide)) rfl rfl hl.1 rfl (lv_room (Nat.le_of_ble_eq_true rfl)) dX12_rods_30 ⟨Nat.le_of_ble_eq_true rfl, Nat.le_of_ble_eq_true rfl⟩) hS hA hP hD [] [0, 1, 2, 3, 4, 5, 6, 7, 8, 9, 10, 11, 12, 13, 14] [0, 1, 2, 3, 4, 5, 6, 7, 8, 9, 10, 11, 12, 13, 14] rfl rfl (by decide) (by decide) (fun _ => rfl) (by decide) (fun r11 u10 H locs hw12 hP hD hS => ?_)
        replace hw12 := hw12.symm; subst hw12
        refine ifneB (tgt := 39) hx hb dX12_rods_33 (by decide) (fun c33 => ?_) (fun c33 => ?_)
        · refine lv_ldc hx hb hown hc137 dX12_rods_39 ?_
          refine lv_istore (lv' := [(5, .int (-1000000)), (0, .ref h), (1, .int (nI k)), (2, .int d0), (3, .int (nI m)), (4, .int w0)]) hx hb dX12_rods_41 hl (by decide) rfl (fun ls hl => ?_)
          refine lv_iconst (v := nI 0) hx hb dX12_rods_43 (by decide) ?_
          refine lv_istore (lv' := [(6, .int (nI 0)), (5, .int (-1000000)), (0, .ref h), (1, .int (nI k)), (2, .int d0), (3, .int (nI m)), (4, .int w0)]) hx hb dX12_rods_44 hl (by decide) rfl (fun ls hl => ?_)
          have lp46 : ∀ f_ : Nat, ∀ (i : Nat) (bx : Int32) (ft : Nat → Int32), (z2 - i) < f_ → (i ≤ z2) → (bx = rodsN (A 12) n k d0 m i) → ∀ (H : Heap) (locs : List Loc), va_P D vwCl (mW cy h r v (va_up A 14 ft)) H → va_D A_ (mW cy h r v (va_up A 14 ft)) → va_S A_ s_.heap H locs → ∀ ls : Array Slot, lv_has ls 8 [(0, .ref h), (1, .int (nI k)), (2, .int d0), (3, .int (nI m)), (4, .int w0), (5, .int bx), (6, .int (nI i))] → W p_ l e_ (rmD 6) s_ m_ args_ below_ meth_ c_ H locs 0 0 Q_ (F0 m_ 46 ls []) := by
            intro f_
            induction f_ with
            | zero => intro i bx ft hm_; exact absurd hm_ (by omega)
            | succ f_ ih46 =>
              intro i bx ft hm_ hi eb H locs hP hD hS ls hl
              refine lv_iload hx hb dX12_rods_46 (lv_at hl 6 rfl) ?_
              refine lv_iconst (v := nI 1) hx hb dX12_rods_48 (by decide) ?_
              refine lv_aload_n hx hb dX12_rods_49 rfl (lv_at hl 0 rfl) ?_
              refine va_get (ci := 11) (v := .ref (r 12)) (C := RX12) (T := TX12) (N := 24) hx hb hts hinX12 hown hK hP 0 rfl rfl 12 (by decide) hf22 (fun _ h9 => h9) rfl dX12_rods_50 ?_
              refine lv_iconst (v := nI 3) hx hb dX12_rods_53 (by decide) ?_
              refine ldN (f := (A 12)) hx hb hK hP 5 rfl (j := 3) (by omega) (by decide) dX12_rods_54 ?_
              refine top_i hC.1 ?_
              refine lv_ishl hx hb dX12_rods_55 ?_
              refine top_i (y := nI z2) ((shl1 hn).trans (congrArg nI hz2.symm)) ?_
              refine geN (tgt := 168) hx hb (by omega) (by omega) dX12_rods_56 (by decide) (fun c56 => ?_) (fun c56 => ?_)
              · refine lv_iload hx hb dX12_rods_168 (lv_at hl 5 rfl) ?_
                refine lv_ldc hx hb hown hc137 dX12_rods_170 ?_
                refine lv_icmp_ne (tgt := 180) hx hb dX12_rods_172 (by decide) (fun c172 => ?_) (fun c172 => ?_)
                · refine lv_iload hx hb dX12_rods_180 (lv_at hl 4 rfl) ?_
                  refine lv_if_ne (tgt := 193) hx hb dX12_rods_182 (by decide) (fun c182 => ?_) (fun c182 => ?_)
                  · refine lv_iload hx hb dX12_rods_193 (lv_at hl 5 rfl) ?_
                    exact ret _ (va_up A 14 ft) _ _ _ _ dX12_rods_195 ⟨(by have e9 : i = 2 ^ n := (by omega); rw [mRods, if_neg (fun h => h.elim (fun h => h c5) (fun h => h.elim (fun h => h c13) (fun h => h.elim (fun h => h c23) (fun h => h c33)))), show cl (nI k) = k from e_k, show cl (nI m) = m from e_m, ← e9, ← eb]; first | (rw [if_pos c172]; done) | (rw [if_neg c172, if_pos c182]; done) | (rw [if_neg c172, if_neg c182]; done)), (fun j h1 h2 h3 h4 => by simp [va_up, h1, h2, h3, h4])⟩ hP hD hS
                  · refine lv_iload hx hb dX12_rods_185 (lv_at hl 5 rfl) ?_
                    refine call_i (wr := [(h, .inr (11, mO r v)), ((r 0), wInt (cy 0) 8 (A 0)), ((r 1), wInt (cy 0) 8 (A 1)), ((r 2), wInt (cy 0) 320 (A 2)), ((r 5), wInt (cy 0) 60 (A 5)), ((r 12), wInt (cy 0) 37 (A 12)), ((r 13), wInt (cy 0) 37 (A 13)), ((r 14), wInt (cy 0) 37 ft), ((r 15), wInt (cy 0) 37 (A 15)), ((r 16), wInt (cy 0) 74 (A 16)), ((r 17), wInt (cy 1) 2 (A 17)), ((r 18), wInt (cy 0) 888 (A 18)), ((r 20), wInt (cy 0) 16 (A 20)), ((r 22), wInt (cy 0) 16 (A 22)), ((r 23), wInt (cy 0) 24 (A 23))]) (ws' := (fun _ : Unit => mW cy h r v (va_up A 14 ft))) (va_runS (As := [.int bx]) (rest := []) CF (k_X12_bits l D cy _ bx ) (va_cwS 1 hts gX12_rods_X12_bits rfl rfl rfl (by decide +kernel) ⟨Nat.le_of_ble_eq_true rfl, Nat.le_of_ble_eq_true rfl⟩) (pre_S hKN hP hD [] rfl (by decide)) rfl rfl hl.1 rfl (lv_room (Nat.le_of_ble_eq_true rfl)) dX12_rods_187 ⟨Nat.le_of_ble_eq_true rfl, Nat.le_of_ble_eq_true rfl⟩) hS hA hP hD [] [0, 1, 2, 3, 4, 5, 6, 7, 8, 9, 10, 11, 12, 13, 14] [0, 1, 2, 3, 4, 5, 6, 7, 8, 9, 10, 11, 12, 13, 14] rfl rfl (by decide) (by decide) (fun _ => rfl) (by decide) (fun r14 u13 H locs hw15 hP hD hS => ?_)
                    replace hw15 := hw15.symm; subst hw15
                    refine lv_goto (tgt := 195) hx hb dX12_rods_190 (by decide) ?_
                    exact ret _ (va_up A 14 ft) _ _ _ _ dX12_rods_195 ⟨(by have e9 : i = 2 ^ n := (by omega); rw [mRods, if_neg (fun h => h.elim (fun h => h c5) (fun h => h.elim (fun h => h c13) (fun h => h.elim (fun h => h c23) (fun h => h c33)))), show cl (nI k) = k from e_k, show cl (nI m) = m from e_m, ← e9, ← eb]; first | (rw [if_pos c172]; done) | (rw [if_neg c172, if_pos c182]; done) | (rw [if_neg c172, if_neg c182]; done)), (fun j h1 h2 h3 h4 => by simp [va_up, h1, h2, h3, h4])⟩ hP hD hS
                · refine lv_ldc hx hb hown hc137 dX12_rods_175 ?_
                  refine lv_goto (tgt := 195) hx hb dX12_rods_177 (by decide) ?_
                  exact ret _ (va_up A 14 ft) _ _ _ _ dX12_rods_195 ⟨(by have e9 : i = 2 ^ n := (by omega); rw [mRods, if_neg (fun h => h.elim (fun h => h c5) (fun h => h.elim (fun h => h c13) (fun h => h.elim (fun h => h c23) (fun h => h c33)))), show cl (nI k) = k from e_k, show cl (nI m) = m from e_m, ← e9, ← eb]; first | (rw [if_pos c172]; done) | (rw [if_neg c172, if_pos c182]; done) | (rw [if_neg c172, if_neg c182]; done)), (fun j h1 h2 h3 h4 => by simp [va_up, h1, h2, h3, h4])⟩ hP hD hS
              · refine lv_iload hx hb dX12_rods_59 (lv_at hl 5 rfl) ?_
                refine lv_ldc hx hb hown hc137 dX12_rods_61 ?_
                refine lv_icmp_eq (tgt := 79) hx hb dX12_rods_63 (by decide) (fun c63 => ?_) (fun c63 => ?_)
                · refine lv_aload_n hx hb dX12_rods_79 rfl (lv_at hl 0 rfl) ?_
                  refine call_v (wr := []) (ws' := (fun _ : Unit => mW cy h r v (va_up A 14 (A 12)))) (va_runV (As := []) (rest := []) CF (k_X12_begin l D cy _ h r v (va_up A 14 ft) ) (cwV 0 hts gX12_rods_X12_begin rfl rfl rfl (by decide +kernel) ⟨Nat.le_of_ble_eq_true rfl, Nat.le_of_ble_eq_true rfl⟩) (pre_V hKN hP hD [0, 1, 2, 3, 4, 5, 6, 7, 8, 9, 10, 11, 12, 13, 14] rfl (by decide) 0 11 rfl rfl) rfl rfl hl.1 rfl (lv_room (Nat.le_of_ble_eq_true rfl)) dX12_rods_80 ⟨Nat.le_of_ble_eq_true rfl, Nat.le_of_ble_eq_true rfl⟩) hS hA hP hD [0, 1, 2, 3, 4, 5, 6, 7, 8, 9, 10, 11, 12, 13, 14] [] [0, 1, 2, 3, 4, 5, 6, 7, 8, 9, 10, 11, 12, 13, 14] rfl rfl (by decide) (by decide) (fun _ => rfl) (by decide) (fun u16 H locs hw18 hP hD hS => ?_)
                  refine lv_iconst (v := nI 0) hx hb dX12_rods_83 (by decide) ?_
                  refine lv_istore (lv' := [(7, .int (nI 0)), (0, .ref h), (1, .int (nI k)), (2, .int d0), (3, .int (nI m)), (4, .int w0), (5, .int bx), (6, .int (nI i))]) hx hb dX12_rods_84 hl (by decide) rfl (fun ls hl => ?_)
                  have lp86 : ∀ f_ : Nat, ∀ (o : Nat) (f2 : Nat → Int32), (n - o) < f_ → (o ≤ n) → (Cat f2 n) → (f2 = rodN (A 12) (nI i) o) → ∀ (H : Heap) (locs : List Loc), va_P D vwCl (mW cy h r v (va_up A 14 f2)) H → va_D A_ (mW cy h r v (va_up A 14 f2)) → va_S A_ s_.heap H locs → ∀ ls : Array Slot, lv_has ls 8 [(0, .ref h), (1, .int (nI k)), (2, .int d0), (3, .int (nI m)), (4, .int w0), (5, .int bx), (6, .int (nI i)), (7, .int (nI o))] → W p_ l e_ (rmD 6) s_ m_ args_ below_ meth_ c_ H locs 0 0 Q_ (F0 m_ 86 ls []) := by
                    intro f_
                    induction f_ with
                    | zero => intro o f2 hm_; exact absurd hm_ (by omega)
                    | succ f_ ih86 =>
                      intro o f2 hm_ ho hC3 e3 H locs hP hD hS ls hl
                      refine lv_iload hx hb dX12_rods_86 (lv_at hl 7 rfl) ?_
                      refine lv_aload_n hx hb dX12_rods_88 rfl (lv_at hl 0 rfl) ?_
                      refine va_get (ci := 11) (v := .ref (r 12)) (C := RX12) (T := TX12) (N := 24) hx hb hts hinX12 hown hK hP 0 rfl rfl 12 (by decide) hf22 (fun _ h9 => h9) rfl dX12_rods_89 ?_
                      refine lv_iconst (v := nI 3) hx hb dX12_rods_92 (by decide) ?_
                      refine ldN (f := (A 12)) hx hb hK hP 5 rfl (j := 3) (by omega) (by decide) dX12_rods_93 ?_
                      refine top_i hC.1 ?_
                      refine geN (tgt := 135) hx hb (by omega) (by omega) dX12_rods_94 (by decide) (fun c94 => ?_) (fun c94 => ?_)
                      · refine lv_aload_n hx hb dX12_rods_135 rfl (lv_at hl 0 rfl) ?_
                        refine lv_iload_n hx hb dX12_rods_136 rfl (lv_at hl 3 rfl) ?_
                        refine call_v (wr := []) (ws' := (fun u19 : (Nat → Int32) => mW cy h r v (va_up A 14 u19))) (va_runV (As := [.int (nI m)]) (rest := []) CF (k_X12_goOn l D cy _ h r v (va_up A 14 f2) m n (by first | assumption | omega | decide) hC3) (cwV 1 hts gX12_rods_X12_goOn rfl rfl rfl (by decide +kernel) ⟨Nat.le_of_ble_eq_true rfl, Nat.le_of_ble_eq_true rfl⟩) (pre_V hKN hP hD [0, 1, 2, 3, 4, 5, 6, 7, 8, 9, 10, 11, 12, 13, 14] rfl (by decide) 0 11 rfl rfl) rfl rfl hl.1 rfl (lv_room (Nat.le_of_ble_eq_true rfl)) dX12_rods_137 ⟨Nat.le_of_ble_eq_true rfl, Nat.le_of_ble_eq_true rfl⟩) hS hA hP hD [0, 1, 2, 3, 4, 5, 6, 7, 8, 9, 10, 11, 12, 13, 14] [] [0, 1, 2, 3, 4, 5, 6, 7, 8, 9, 10, 11, 12, 13, 14] rfl rfl (by decide) (by decide) (fun _ => rfl) (by decide) (fun u19 H locs hw21 hP hD hS => ?_)
                        replace hw21 := hw21.symm; subst hw21
                        have hP : va_P D vwCl (mW cy h r v (va_up A 14 (nightsS (f2) n m))) H := hP
                        have hD : va_D A_ (mW cy h r v (va_up A 14 (nightsS (f2) n m))) := hD
                        refine lv_aload_n hx hb dX12_rods_140 rfl (lv_at hl 0 rfl) ?_
                        refine va_get (ci := 11) (v := .ref (r 14)) (C := RX12) (T := TX12) (N := 24) hx hb hts hinX12 hown hK hP 0 rfl rfl 14 (by decide) hf28 (fun _ h9 => h9) rfl dX12_rods_141 ?_
                        refine lv_bipush (v := nI 21) hx hb dX12_rods_144 (by decide) ?_
                        refine lv_iload_n hx hb dX12_rods_146 rfl (lv_at hl 1 rfl) ?_
                        refine adN (k := 21 + k) hx hb rfl dX12_rods_147 ?_
                        refine ldN (f := nightsS (f2) n m) hx hb hK hP 7 rfl (j := 21 + k) (by omega) (by decide) dX12_rods_148 ?_
                        refine lv_iload_n hx hb dX12_rods_149 rfl (lv_at hl 2 rfl) ?_
                        refine lv_icmp_ne (tgt := 158) hx hb dX12_rods_150 (by decide) (fun c150 => ?_) (fun c150 => ?_)
                        · refine lv_iload hx hb dX12_rods_158 (lv_at hl 5 rfl) ?_
                          refine lv_istore (lv' := [(5, .int bx), (0, .ref h), (1, .int (nI k)), (2, .int d0), (3, .int (nI m)), (4, .int w0), (6, .int (nI i)), (7, .int (nI o))]) hx hb dX12_rods_160 hl (by decide) rfl (fun ls hl => ?_)
                          refine lv_iinc (v := nI (i + 1)) (lv' := [(6, .int (nI (i + 1))), (5, .int bx), (0, .ref h), (1, .int (nI k)), (2, .int d0), (3, .int (nI m)), (4, .int w0), (7, .int (nI o))]) hx hb dX12_rods_162 hl (k := 6) rfl (nI_1 _) (by decide) rfl (fun ls hl => ?_)
                          refine lv_goto (tgt := 46) hx hb dX12_rods_165 (by decide) ?_
                          exact ih46 (i + 1) bx (nightsS (f2) n m) (by omega) (by omega) (by have e9 : o = n := (by omega); subst e9; rw [rodsN, ← eb, ← e3, if_pos (by first | exact Or.inl c63 | exact Or.inr c76)]; first | (rw [if_pos c150]; done) | (rw [if_neg c150]; done)) _ _ hP hD hS ls (lv_sub hl [2, 3, 4, 5, 6, 1, 0] rfl)
                        · refine lv_iload hx hb dX12_rods_153 (lv_at hl 6 rfl) ?_
                          refine lv_goto (tgt := 160) hx hb dX12_rods_155 (by decide) ?_
                          refine lv_istore (lv' := [(5, .int (nI i)), (0, .ref h), (1, .int (nI k)), (2, .int d0), (3, .int (nI m)), (4, .int w0), (6, .int (nI i)), (7, .int (nI o))]) hx hb dX12_rods_160 hl (by decide) rfl (fun ls hl => ?_)
                          refine lv_iinc (v := nI (i + 1)) (lv' := [(6, .int (nI (i + 1))), (5, .int (nI i)), (0, .ref h), (1, .int (nI k)), (2, .int d0), (3, .int (nI m)), (4, .int w0), (7, .int (nI o))]) hx hb dX12_rods_162 hl (k := 6) rfl (nI_1 _) (by decide) rfl (fun ls hl => ?_)
                          refine lv_goto (tgt := 46) hx hb dX12_rods_165 (by decide) ?_
                          exact ih46 (i + 1) (nI i) (nightsS (f2) n m) (by omega) (by omega) (by have e9 : o = n := (by omega); subst e9; rw [rodsN, ← eb, ← e3, if_pos (by first | exact Or.inl c63 | exact Or.inr c76)]; first | (rw [if_pos c150]; done) | (rw [if_neg c150]; done)) _ _ hP hD hS ls (lv_sub hl [2, 3, 4, 5, 6, 1, 0] rfl)
                      · refine lv_aload_n hx hb dX12_rods_97 rfl (lv_at hl 0 rfl) ?_
                        refine va_get (ci := 11) (v := .ref (r 14)) (C := RX12) (T := TX12) (N := 24) hx hb hts hinX12 hown hK hP 0 rfl rfl 14 (by decide) hf28 (fun _ h9 => h9) rfl dX12_rods_98 ?_
                        refine lv_iconst (v := nI 5) hx hb dX12_rods_101 (by decide) ?_
                        refine lv_iload hx hb dX12_rods_102 (lv_at hl 7 rfl) ?_
                        refine adN (k := 5 + o) hx hb rfl dX12_rods_104 ?_
                        refine lv_iload hx hb dX12_rods_105 (lv_at hl 6 rfl) ?_
                        refine lv_iload hx hb dX12_rods_107 (lv_at hl 7 rfl) ?_
                        refine call_i (wr := [(h, .inr (11, mO r v)), ((r 0), wInt (cy 0) 8 (A 0)), ((r 1), wInt (cy 0) 8 (A 1)), ((r 2), wInt (cy 0) 320 (A 2)), ((r 5), wInt (cy 0) 60 (A 5)), ((r 12), wInt (cy 0) 37 (A 12)), ((r 13), wInt (cy 0) 37 (A 13)), ((r 14), wInt (cy 0) 37 f2), ((r 15), wInt (cy 0) 37 (A 15)), ((r 16), wInt (cy 0) 74 (A 16)), ((r 17), wInt (cy 1) 2 (A 17)), ((r 18), wInt (cy 0) 888 (A 18)), ((r 20), wInt (cy 0) 16 (A 20)), ((r 22), wInt (cy 0) 16 (A 22)), ((r 23), wInt (cy 0) 24 (A 23))]) (ws' := (fun _ : Unit => mW cy h r v (va_up A 14 f2))) (va_runS (As := [.int (nI i), .int (nI o)]) (rest := [.int (nI (5 + o)), .ref (r 14)]) CF (k_X12_isIn l D cy _ (nI i) o ) (va_cwS 2 hts gX12_rods_X12_isIn rfl rfl rfl (by decide +kernel) ⟨Nat.le_of_ble_eq_true rfl, Nat.le_of_ble_eq_true rfl⟩) (pre_S hKN hP hD [] rfl (by decide)) rfl rfl hl.1 rfl (lv_room (Nat.le_of_ble_eq_true rfl)) dX12_rods_109 ⟨Nat.le_of_ble_eq_true rfl, Nat.le_of_ble_eq_true rfl⟩) hS hA hP hD [] [0, 1, 2, 3, 4, 5, 6, 7, 8, 9, 10, 11, 12, 13, 14] [0, 1, 2, 3, 4, 5, 6, 7, 8, 9, 10, 11, 12, 13, 14] rfl rfl (by decide) (by decide) (fun _ => rfl) (by decide) (fun r23 u22 H locs hw24 hP hD hS => ?_)
                        replace hw24 := hw24.symm; subst hw24
                        refine ifeqB (tgt := 119) hx hb dX12_rods_112 (by decide) (fun c112 => ?_) (fun c112 => ?_)
                        · refine lv_aload_n hx hb dX12_rods_119 rfl (lv_at hl 0 rfl) ?_
                          refine va_get (ci := 11) (v := .ref (r 14)) (C := RX12) (T := TX12) (N := 24) hx hb hts hinX12 hown hK hP 0 rfl rfl 14 (by decide) hf28 (fun _ h9 => h9) rfl dX12_rods_120 ?_
                          refine lv_iconst (v := nI 5) hx hb dX12_rods_123 (by decide) ?_
                          refine lv_iload hx hb dX12_rods_124 (lv_at hl 7 rfl) ?_
                          refine adN (k := 5 + o) hx hb rfl dX12_rods_126 ?_
                          refine ldN (f := f2) hx hb hK hP 7 rfl (j := 5 + o) (by omega) (by decide) dX12_rods_127 ?_
                          refine stN (f := f2) (ws' := mW cy h r v (va_up A 14 (upd f2 (5 + o) (f2 (5 + o))))) hx hb hK hP hD hS 7 rfl (j := 5 + o) (by omega) (by decide) dX12_rods_128 rfl (fun H locs hP hD hS => ?_)
                          refine lv_iinc (v := nI (o + 1)) (lv' := [(7, .int (nI (o + 1))), (0, .ref h), (1, .int (nI k)), (2, .int d0), (3, .int (nI m)), (4, .int w0), (5, .int bx), (6, .int (nI i))]) hx hb dX12_rods_129 hl (k := 7) rfl (nI_1 _) (by decide) rfl (fun ls hl => ?_)
                          refine lv_goto (tgt := 86) hx hb dX12_rods_132 (by decide) ?_
                          exact ih86 (o + 1) (upd f2 (5 + o) (f2 (5 + o))) (by omega) (by omega) (by have q := hC.rodN (nI i) (o + 1) (by omega); rw [rodN, ← e3] at q; first | (rw [if_pos c112] at q; exact q) | (rw [if_neg c112] at q; exact q)) (by rw [rodN, ← e3]; first | (rw [if_pos c112]; done) | (rw [if_neg c112]; done)) _ _ hP hD hS ls (lv_sub hl [1, 2, 3, 4, 5, 6, 7, 0] rfl)
                        · refine lv_iconst (v := nI 4) hx hb dX12_rods_115 (by decide) ?_
                          refine lv_goto (tgt := 128) hx hb dX12_rods_116 (by decide) ?_
                          refine stN (f := f2) (ws' := mW cy h r v (va_up A 14 (upd f2 (5 + o) (nI 4)))) hx hb hK hP hD hS 7 rfl (j := 5 + o) (by omega) (by decide) dX12_rods_128 rfl (fun H locs hP hD hS => ?_)
                          refine lv_iinc (v := nI (o + 1)) (lv' := [(7, .int (nI (o + 1))), (0, .ref h), (1, .int (nI k)), (2, .int d0), (3, .int (nI m)), (4, .int w0), (5, .int bx), (6, .int (nI i))]) hx hb dX12_rods_129 hl (k := 7) rfl (nI_1 _) (by decide) rfl (fun ls hl => ?_)
                          refine lv_goto (tgt := 86) hx hb dX12_rods_132 (by decide) ?_
                          exact ih86 (o + 1) (upd f2 (5 + o) (nI 4)) (by omega) (by omega) (by have q := hC.rodN (nI i) (o + 1) (by omega); rw [rodN, ← e3] at q; first | (rw [if_pos c112] at q; exact q) | (rw [if_neg c112] at q; exact q)) (by rw [rodN, ← e3]; first | (rw [if_pos c112]; done) | (rw [if_neg c112]; done)) _ _ hP hD hS ls (lv_sub hl [1, 2, 3, 4, 5, 6, 7, 0] rfl)
                  exact lp86 (n - 0 + 1) 0 (A 12) (by omega) (by omega) hC rfl _ _ hP hD hS ls (lv_sub hl [1, 2, 3, 4, 5, 6, 7, 0] rfl)
                · refine lv_iload hx hb dX12_rods_66 (lv_at hl 6 rfl) ?_
                  refine call_i (wr := [(h, .inr (11, mO r v)), ((r 0), wInt (cy 0) 8 (A 0)), ((r 1), wInt (cy 0) 8 (A 1)), ((r 2), wInt (cy 0) 320 (A 2)), ((r 5), wInt (cy 0) 60 (A 5)), ((r 12), wInt (cy 0) 37 (A 12)), ((r 13), wInt (cy 0) 37 (A 13)), ((r 14), wInt (cy 0) 37 ft), ((r 15), wInt (cy 0) 37 (A 15)), ((r 16), wInt (cy 0) 74 (A 16)), ((r 17), wInt (cy 1) 2 (A 17)), ((r 18), wInt (cy 0) 888 (A 18)), ((r 20), wInt (cy 0) 16 (A 20)), ((r 22), wInt (cy 0) 16 (A 22)), ((r 23), wInt (cy 0) 24 (A 23))]) (ws' := (fun _ : Unit => mW cy h r v (va_up A 14 ft))) (va_runS (As := [.int (nI i)]) (rest := []) CF (k_X12_bits l D cy _ (nI i) ) (va_cwS 1 hts gX12_rods_X12_bits rfl rfl rfl (by decide +kernel) ⟨Nat.le_of_ble_eq_true rfl, Nat.le_of_ble_eq_true rfl⟩) (pre_S hKN hP hD [] rfl (by decide)) rfl rfl hl.1 rfl (lv_room (Nat.le_of_ble_eq_true rfl)) dX12_rods_68 ⟨Nat.le_of_ble_eq_true rfl, Nat.le_of_ble_eq_true rfl⟩) hS hA hP hD [] [0, 1, 2, 3, 4, 5, 6, 7, 8, 9, 10, 11, 12, 13, 14] [0, 1, 2, 3, 4, 5, 6, 7, 8, 9, 10, 11, 12, 13, 14] rfl rfl (by decide) (by decide) (fun _ => rfl) (by decide) (fun r26 u25 H locs hw27 hP hD hS => ?_)
                  replace hw27 := hw27.symm; subst hw27
                  refine lv_iload hx hb dX12_rods_71 (lv_at hl 5 rfl) ?_
                  refine call_i (wr := [(h, .inr (11, mO r v)), ((r 0), wInt (cy 0) 8 (A 0)), ((r 1), wInt (cy 0) 8 (A 1)), ((r 2), wInt (cy 0) 320 (A 2)), ((r 5), wInt (cy 0) 60 (A 5)), ((r 12), wInt (cy 0) 37 (A 12)), ((r 13), wInt (cy 0) 37 (A 13)), ((r 14), wInt (cy 0) 37 ft), ((r 15), wInt (cy 0) 37 (A 15)), ((r 16), wInt (cy 0) 74 (A 16)), ((r 17), wInt (cy 1) 2 (A 17)), ((r 18), wInt (cy 0) 888 (A 18)), ((r 20), wInt (cy 0) 16 (A 20)), ((r 22), wInt (cy 0) 16 (A 22)), ((r 23), wInt (cy 0) 24 (A 23))]) (ws' := (fun _ : Unit => mW cy h r v (va_up A 14 ft))) (va_runS (As := [.int bx]) (rest := [.int (bitsN (nI i) 8)]) CF (k_X12_bits l D cy _ bx ) (va_cwS 1 hts gX12_rods_X12_bits rfl rfl rfl (by decide +kernel) ⟨Nat.le_of_ble_eq_true rfl, Nat.le_of_ble_eq_true rfl⟩) (pre_S hKN hP hD [] rfl (by decide)) rfl rfl hl.1 rfl (lv_room (Nat.le_of_ble_eq_true rfl)) dX12_rods_73 ⟨Nat.le_of_ble_eq_true rfl, Nat.le_of_ble_eq_true rfl⟩) hS hA hP hD [] [0, 1, 2, 3, 4, 5, 6, 7, 8, 9, 10, 11, 12, 13, 14] [0, 1, 2, 3, 4, 5, 6, 7, 8, 9, 10, 11, 12, 13, 14] rfl rfl (by decide) (by decide) (fun _ => rfl) (by decide) (fun r29 u28 H locs hw30 hP hD hS => ?_)
                  replace hw30 := hw30.symm; subst hw30
                  refine lv_icmp_ge (tgt := 162) hx hb dX12_rods_76 (by decide) (fun c76 => ?_) (fun c76 => ?_)
                  · refine lv_iinc (v := nI (i + 1)) (lv' := [(6, .int (nI (i + 1))), (0, .ref h), (1, .int (nI k)), (2, .int d0), (3, .int (nI m)), (4, .int w0), (5, .int bx)]) hx hb dX12_rods_162 hl (k := 6) rfl (nI_1 _) (by decide) rfl (fun ls hl => ?_)
                    refine lv_goto (tgt := 46) hx hb dX12_rods_165 (by decide) ?_
                    exact ih46 (i + 1) bx ft (by omega) (by omega) (by rw [rodsN, ← eb, if_neg (fun h => h.elim c63 (fun h => h c76))]) _ _ hP hD hS ls (lv_sub hl [1, 2, 3, 4, 5, 6, 0] rfl)
                  · refine lv_aload_n hx hb dX12_rods_79 rfl (lv_at hl 0 rfl) ?_
                    refine call_v (wr := []) (ws' := (fun _ : Unit => mW cy h r v (va_up A 14 (A 12)))) (va_runV (As := []) (rest := []) CF (k_X12_begin l D cy _ h r v (va_up A 14 ft) ) (cwV 0 hts gX12_rods_X12_begin rfl rfl rfl (by decide +kernel) ⟨Nat.le_of_ble_eq_true rfl, Nat.le_of_ble_eq_true rfl⟩) (pre_V hKN hP hD [0, 1, 2, 3, 4, 5, 6, 7, 8, 9, 10, 11, 12, 13, 14] rfl (by decide) 0 11 rfl rfl) rfl rfl hl.1 rfl (lv_room (Nat.le_of_ble_eq_true rfl)) dX12_rods_80 ⟨Nat.le_of_ble_eq_true rfl, Nat.le_of_ble_eq_true rfl⟩) hS hA hP hD [0, 1, 2, 3, 4, 5, 6, 7, 8, 9, 10, 11, 12, 13, 14] [] [0, 1, 2, 3, 4, 5, 6, 7, 8, 9, 10, 11, 12, 13, 14] rfl rfl (by decide) (by decide) (fun _ => rfl) (by decide) (fun u31 H locs hw33 hP hD hS => ?_)
                    refine lv_iconst (v := nI 0) hx hb dX12_rods_83 (by decide) ?_
                    refine lv_istore (lv' := [(7, .int (nI 0)), (0, .ref h), (1, .int (nI k)), (2, .int d0), (3, .int (nI m)), (4, .int w0), (5, .int bx), (6, .int (nI i))]) hx hb dX12_rods_84 hl (by decide) rfl (fun ls hl => ?_)
                    have lp86 : ∀ f_ : Nat, ∀ (o : Nat) (f2 : Nat → Int32), (n - o) < f_ → (o ≤ n) → (Cat f2 n) → (f2 = rodN (A 12) (nI i) o) → ∀ (H : Heap) (locs : List Loc), va_P D vwCl (mW cy h r v (va_up A 14 f2)) H → va_D A_ (mW cy h r v (va_up A 14 f2)) → va_S A_ s_.heap H locs → ∀ ls : Array Slot, lv_has ls 8 [(0, .ref h), (1, .int (nI k)), (2, .int d0), (3, .int (nI m)), (4, .int w0), (5, .int bx), (6, .int (nI i)), (7, .int (nI o))] → W p_ l e_ (rmD 6) s_ m_ args_ below_ meth_ c_ H locs 0 0 Q_ (F0 m_ 86 ls []) := by
                      intro f_
                      induction f_ with
                      | zero => intro o f2 hm_; exact absurd hm_ (by omega)
                      | succ f_ ih86 =>
                        intro o f2 hm_ ho hC3 e3 H locs hP hD hS ls hl
                        refine lv_iload hx hb dX12_rods_86 (lv_at hl 7 rfl) ?_
                        refine lv_aload_n hx hb dX12_rods_88 rfl (lv_at hl 0 rfl) ?_
                        refine va_get (ci := 11) (v := .ref (r 12)) (C := RX12) (T := TX12) (N := 24) hx hb hts hinX12 hown hK hP 0 rfl rfl 12 (by decide) hf22 (fun _ h9 => h9) rfl dX12_rods_89 ?_
                        refine lv_iconst (v := nI 3) hx hb dX12_rods_92 (by decide) ?_
                        refine ldN (f := (A 12)) hx hb hK hP 5 rfl (j := 3) (by omega) (by decide) dX12_rods_93 ?_
                        refine top_i hC.1 ?_
                        refine geN (tgt := 135) hx hb (by omega) (by omega) dX12_rods_94 (by decide) (fun c94 => ?_) (fun c94 => ?_)
                        · refine lv_aload_n hx hb dX12_rods_135 rfl (lv_at hl 0 rfl) ?_
                          refine lv_iload_n hx hb dX12_rods_136 rfl (lv_at hl 3 rfl) ?_
                          refine call_v (wr := []) (ws' := (fun u34 : (Nat → Int32) => mW cy h r v (va_up A 14 u34))) (va_runV (As := [.int (nI m)]) (rest := []) CF (k_X12_goOn l D cy _ h r v (va_up A 14 f2) m n (by first | assumption | omega | decide) hC3) (cwV 1 hts gX12_rods_X12_goOn rfl rfl rfl (by decide +kernel) ⟨Nat.le_of_ble_eq_true rfl, Nat.le_of_ble_eq_true rfl⟩) (pre_V hKN hP hD [0, 1, 2, 3, 4, 5, 6, 7, 8, 9, 10, 11, 12, 13, 14] rfl (by decide) 0 11 rfl rfl) rfl rfl hl.1 rfl (lv_room (Nat.le_of_ble_eq_true rfl)) dX12_rods_137 ⟨Nat.le_of_ble_eq_true rfl, Nat.le_of_ble_eq_true rfl⟩) hS hA hP hD [0, 1, 2, 3, 4, 5, 6, 7, 8, 9, 10, 11, 12, 13, 14] [] [0, 1, 2, 3, 4, 5, 6, 7, 8, 9, 10, 11, 12, 13, 14] rfl rfl (by decide) (by decide) (fun _ => rfl) (by decide) (fun u34 H locs hw36 hP hD hS => ?_)
                          replace hw36 := hw36.symm; subst hw36
                          have hP : va_P D vwCl (mW cy h r v (va_up A 14 (nightsS (f2) n m))) H := hP
                          have hD : va_D A_ (mW cy h r v (va_up A 14 (nightsS (f2) n m))) := hD
                          refine lv_aload_n hx hb dX12_rods_140 rfl (lv_at hl 0 rfl) ?_
                          refine va_get (ci := 11) (v := .ref (r 14)) (C := RX12) (T := TX12) (N := 24) hx hb hts hinX12 hown hK hP 0 rfl rfl 14 (by decide) hf28 (fun _ h9 => h9) rfl dX12_rods_141 ?_
                          refine lv_bipush (v := nI 21) hx hb dX12_rods_144 (by decide) ?_
                          refine lv_iload_n hx hb dX12_rods_146 rfl (lv_at hl 1 rfl) ?_
                          refine adN (k := 21 + k) hx hb rfl dX12_rods_147 ?_
                          refine ldN (f := nightsS (f2) n m) hx hb hK hP 7 rfl (j := 21 + k) (by omega) (by decide) dX12_rods_148 ?_
                          refine lv_iload_n hx hb dX12_rods_149 rfl (lv_at hl 2 rfl) ?_
                          refine lv_icmp_ne (tgt := 158) hx hb dX12_rods_150 (by decide) (fun c150 => ?_) (fun c150 => ?_)
                          · refine lv_iload hx hb dX12_rods_158 (lv_at hl 5 rfl) ?_
                            refine lv_istore (lv' := [(5, .int bx), (0, .ref h), (1, .int (nI k)), (2, .int d0), (3, .int (nI m)), (4, .int w0), (6, .int (nI i)), (7, .int (nI o))]) hx hb dX12_rods_160 hl (by decide) rfl (fun ls hl => ?_)
                            refine lv_iinc (v := nI (i + 1)) (lv' := [(6, .int (nI (i + 1))), (5, .int bx), (0, .ref h), (1, .int (nI k)), (2, .int d0), (3, .int (nI m)), (4, .int w0), (7, .int (nI o))]) hx hb dX12_rods_162 hl (k := 6) rfl (nI_1 _) (by decide) rfl (fun ls hl => ?_)
                            refine lv_goto (tgt := 46) hx hb dX12_rods_165 (by decide) ?_
                            exact ih46 (i + 1) bx (nightsS (f2) n m) (by omega) (by omega) (by have e9 : o = n := (by omega); subst e9; rw [rodsN, ← eb, ← e3, if_pos (by first | exact Or.inl c63 | exact Or.inr c76)]; first | (rw [if_pos c150]; done) | (rw [if_neg c150]; done)) _ _ hP hD hS ls (lv_sub hl [2, 3, 4, 5, 6, 1, 0] rfl)
                          · refine lv_iload hx hb dX12_rods_153 (lv_at hl 6 rfl) ?_
                            refine lv_goto (tgt := 160) hx hb dX12_rods_155 (by decide) ?_
                            refine lv_istore (lv' := [(5, .int (nI i)), (0, .ref h), (1, .int (nI k)), (2, .int d0), (3, .int (nI m)), (4, .int w0), (6, .int (nI i)), (7, .int (nI o))]) hx hb dX12_rods_160 hl (by decide) rfl (fun ls hl => ?_)
                            refine lv_iinc (v := nI (i + 1)) (lv' := [(6, .int (nI (i + 1))), (5, .int (nI i)), (0, .ref h), (1, .int (nI k)), (2, .int d0), (3, .int (nI m)), (4, .int w0), (7, .int (nI o))]) hx hb dX12_rods_162 hl (k := 6) rfl (nI_1 _) (by decide) rfl (fun ls hl => ?_)
                            refine lv_goto (tgt := 46) hx hb dX12_rods_165 (by decide) ?_
                            exact ih46 (i + 1) (nI i) (nightsS (f2) n m) (by omega) (by omega) (by have e9 : o = n := (by omega); subst e9; rw [rodsN, ← eb, ← e3, if_pos (by first | exact Or.inl c63 | exact Or.inr c76)]; first | (rw [if_pos c150]; done) | (rw [if_neg c150]; done)) _ _ hP hD hS ls (lv_sub hl [2, 3, 4, 5, 6, 1, 0] rfl)
                        · refine lv_aload_n hx hb dX12_rods_97 rfl (lv_at hl 0 rfl) ?_
                          refine va_get (ci := 11) (v := .ref (r 14)) (C := RX12) (T := TX12) (N := 24) hx hb hts hinX12 hown hK hP 0 rfl rfl 14 (by decide) hf28 (fun _ h9 => h9) rfl dX12_rods_98 ?_
                          refine lv_iconst (v := nI 5) hx hb dX12_rods_101 (by decide) ?_
                          refine lv_iload hx hb dX12_rods_102 (lv_at hl 7 rfl) ?_
                          refine adN (k := 5 + o) hx hb rfl dX12_rods_104 ?_
                          refine lv_iload hx hb dX12_rods_105 (lv_at hl 6 rfl) ?_
                          refine lv_iload hx hb dX12_rods_107 (lv_at hl 7 rfl) ?_
                          refine call_i (wr := [(h, .inr (11, mO r v)), ((r 0), wInt (cy 0) 8 (A 0)), ((r 1), wInt (cy 0) 8 (A 1)), ((r 2), wInt (cy 0) 320 (A 2)), ((r 5), wInt (cy 0) 60 (A 5)), ((r 12), wInt (cy 0) 37 (A 12)), ((r 13), wInt (cy 0) 37 (A 13)), ((r 14), wInt (cy 0) 37 f2), ((r 15), wInt (cy 0) 37 (A 15)), ((r 16), wInt (cy 0) 74 (A 16)), ((r 17), wInt (cy 1) 2 (A 17)), ((r 18), wInt (cy 0) 888 (A 18)), ((r 20), wInt (cy 0) 16 (A 20)), ((r 22), wInt (cy 0) 16 (A 22)), ((r 23), wInt (cy 0) 24 (A 23))]) (ws' := (fun _ : Unit => mW cy h r v (va_up A 14 f2))) (va_runS (As := [.int (nI i), .int (nI o)]) (rest := [.int (nI (5 + o)), .ref (r 14)]) CF (k_X12_isIn l D cy _ (nI i) o ) (va_cwS 2 hts gX12_rods_X12_isIn rfl rfl rfl (by decide +kernel) ⟨Nat.le_of_ble_eq_true rfl, Nat.le_of_ble_eq_true rfl⟩) (pre_S hKN hP hD [] rfl (by decide)) rfl rfl hl.1 rfl (lv_room (Nat.le_of_ble_eq_true rfl)) dX12_rods_109 ⟨Nat.le_of_ble_eq_true rfl, Nat.le_of_ble_eq_true rfl⟩) hS hA hP hD [] [0, 1, 2, 3, 4, 5, 6, 7, 8, 9, 10, 11, 12, 13, 14] [0, 1, 2, 3, 4, 5, 6, 7, 8, 9, 10, 11, 12, 13, 14] rfl rfl (by decide) (by decide) (fun _ => rfl) (by decide) (fun r38 u37 H locs hw39 hP hD hS => ?_)
                          replace hw39 := hw39.symm; subst hw39
                          refine ifeqB (tgt := 119) hx hb dX12_rods_112 (by decide) (fun c112 => ?_) (fun c112 => ?_)
                          · refine lv_aload_n hx hb dX12_rods_119 rfl (lv_at hl 0 rfl) ?_
                            refine va_get (ci := 11) (v := .ref (r 14)) (C := RX12) (T := TX12) (N := 24) hx hb hts hinX12 hown hK hP 0 rfl rfl 14 (by decide) hf28 (fun _ h9 => h9) rfl dX12_rods_120 ?_
                            refine lv_iconst (v := nI 5) hx hb dX12_rods_123 (by decide) ?_
                            refine lv_iload hx hb dX12_rods_124 (lv_at hl 7 rfl) ?_
                            refine adN (k := 5 + o) hx hb rfl dX12_rods_126 ?_
                            refine ldN (f := f2) hx hb hK hP 7 rfl (j := 5 + o) (by omega) (by decide) dX12_rods_127 ?_
                            refine stN (f := f2) (ws' := mW cy h r v (va_up A 14 (upd f2 (5 + o) (f2 (5 + o))))) hx hb hK hP hD hS 7 rfl (j := 5 + o) (by omega) (by decide) dX12_rods_128 rfl (fun H locs hP hD hS => ?_)
                            refine lv_iinc (v := nI (o + 1)) (lv' := [(7, .int (nI (o + 1))), (0, .ref h), (1, .int (nI k)), (2, .int d0), (3, .int (nI m)), (4, .int w0), (5, .int bx), (6, .int (nI i))]) hx hb dX12_rods_129 hl (k := 7) rfl (nI_1 _) (by decide) rfl (fun ls hl => ?_)
                            refine lv_goto (tgt := 86) hx hb dX12_rods_132 (by decide) ?_
                            exact ih86 (o + 1) (upd f2 (5 + o) (f2 (5 + o))) (by omega) (by omega) (by have q := hC.rodN (nI i) (o + 1) (by omega); rw [rodN, ← e3] at q; first | (rw [if_pos c112] at q; exact q) | (rw [if_neg c112] at q; exact q)) (by rw [rodN, ← e3]; first | (rw [if_pos c112]; done) | (rw [if_neg c112]; done)) _ _ hP hD hS ls (lv_sub hl [1, 2, 3, 4, 5, 6, 7, 0] rfl)
                          · refine lv_iconst (v := nI 4) hx hb dX12_rods_115 (by decide) ?_
                            refine lv_goto (tgt := 128) hx hb dX12_rods_116 (by decide) ?_
                            refine stN (f := f2) (ws' := mW cy h r v (va_up A 14 (upd f2 (5 + o) (nI 4)))) hx hb hK hP hD hS 7 rfl (j := 5 + o) (by omega) (by decide) dX12_rods_128 rfl (fun H locs hP hD hS => ?_)
                            refine lv_iinc (v := nI (o + 1)) (lv' := [(7, .int (nI (o + 1))), (0, .ref h), (1, .int (nI k)), (2, .int d0), (3, .int (nI m)), (4, .int w0), (5, .int bx), (6, .int (nI i))]) hx hb dX12_rods_129 hl (k := 7) rfl (nI_1 _) (by decide) rfl (fun ls hl => ?_)
                            refine lv_goto (tgt := 86) hx hb dX12_rods_132 (by decide) ?_
                            exact ih86 (o + 1) (upd f2 (5 + o) (nI 4)) (by omega) (by omega) (by have q := hC.rodN (nI i) (o + 1) (by omega); rw [rodN, ← e3] at q; first | (rw [if_pos c112] at q; exact q) | (rw [if_neg c112] at q; exact q)) (by rw [rodN, ← e3]; first | (rw [if_pos c112]; done) | (rw [if_neg c112]; done)) _ _ hP hD hS ls (lv_sub hl [1, 2, 3, 4, 5, 6, 7, 0] rfl)
                    exact lp86 (n - 0 + 1) 0 (A 12) (by omega) (by omega) hC rfl _ _ hP hD hS ls (lv_sub hl [1, 2, 3, 4, 5, 6, 7, 0] rfl)
          exact lp46 (z2 - 0 + 1) 0 (-1000000) (A 14) (by omega) (by omega) rfl _ _ hP hD hS ls (lv_sub hl [2, 3, 4, 5, 6, 1, 0] rfl)
        · refine lv_ldc hx hb hown hc66 dX12_rods_36 ?_
          exact ret _ A _ _ _ _ dX12_rods_38 ⟨(by simp [-not_and, -Int32.not_le, -Int32.not_lt, noOne, noDr, mRods, c5, e_k, c13, c23, e_m, c33]), (fun j h1 h2 h3 h4 => by simp [va_up, h1, h2, h3, h4])⟩ hP hD hS
set_option maxHeartbeats 4000000 in
set_option maxRecDepth 100000 in
theorem k_X12_asleep (l : Launch) (D : va_G) (cy : Nat → ClassId) (sz : Nat) (h : Nat) (r : Nat → Nat) (v : Nat → Int32) (A : Nat → Nat → Int32) (n : Nat) (x : Int32) (d0 : Int32) (t0 : Int32) (w0 : Int32) (hC : Cat (A 12) n) : Met l yX12_asleep wsX12_asleep (rmD 5) (pPre D (TY cy) (mW cy h r v A) sz [.ref h, .int x, .int d0, .int t0, .int w0]) (pI D (TY cy) (mW cy h r v A) sz (fun A2 : Nat → Nat → Int32 => mW cy h r v A2) (fun (r_ : Int32) (u : (Nat → Nat → Int32)) => r_ = mAslp A n x d0 t0 w0 ∧ scr u A)) 0 0 (va_A (mW cy h r v A) sz) := by
  refine ent_i (cc := cX12_asleep) (maxL := 10) (by decide +kernel) rfl (Nat.le_of_ble_eq_true rfl) ?_
  intro p_ e_ s_ m_ args_ below_ meth_ c_ A_ Q_ ls B0 ret
  obtain ⟨CF, hA, hKN, hP, hD, hl⟩ := B0
  have hK := hKN.1
  obtain ⟨hx, hb, hml, hown, hts⟩ := id CF
  have hS : va_S A_ s_.heap s_.heap [] := va_S.rf
  have hl : lv_has ls 10 [(0, .ref h), (1, .int x), (2, .int d0), (3, .int t0), (4, .int w0)] := hl
  have hc66 := hts (.constant RX12 66 (-1000001)) (by decide +kernel)
  have hf22 := hts (.fieldLink RX12 22 "DrawerCardsModel" "now" "[I") (by decide +kernel)
  have hinX12 := show ∀ w ∈ u_ws RX12 TX12 24, w ∈ wsX12_asleep from by decide +kernel
  have hf28 := hts (.fieldLink RX12 28 "DrawerCardsModel" "tried" "[I") (by decide +kernel)
  have hn := hC.2.1
  obtain ⟨z2, hz2⟩ : ∃ z, z = 2 ^ n := ⟨_, rfl⟩
  have hz3 : z2 ≤ 256 := hz2 ▸ pow2_le hn
  refine lv_aload_n hx hb dX12_asleep_0 rfl (lv_at hl 0 rfl) ?_
  refine lv_iload_n hx hb dX12_asleep_1 rfl (lv_at hl 1 rfl) ?_
  refine call_i (wr := []) (ws' := (fun _ : Unit => mW cy h r v A)) (va_runV (As := [.int x]) (rest := []) CF (k_X12_isOne l D cy _ h r v A x ) (cwV 1 hts gX12_asleep_X12_isOne rfl rfl rfl (by decide +kernel) ⟨Nat.le_of_ble_eq_true rfl, Nat.le_of_ble_eq_true rfl⟩) (pre_V hKN hP hD [0, 1, 2, 3, 4, 5, 6, 7, 8, 9, 10, 11, 12, 13, 14] rfl (by decide) 0 11 rfl rfl) rfl rfl hl.1 rfl (lv_room (Nat.le_of_ble_eq_true rfl)) dX12_asleep_2 ⟨Nat.le_of_ble_eq_true rfl, Nat.le_of_ble_eq_true rfl⟩) hS hA hP hD [0, 1, 2, 3, 4, 5, 6, 7, 8, 9, 10, 11, 12, 13, 14] [] [0, 1, 2, 3, 4, 5, 6, 7, 8, 9, 10, 11, 12, 13, 14] rfl rfl (by decide) (by decide) (fun _ => rfl) (by decide) (fun r2 u1 H locs hw3 hP hD hS => ?_)
  replace hw3 := hw3.symm; subst hw3
  refine ifeqB (tgt := 36) hx hb dX12_asleep_5 (by decide) (fun c5 => ?_) (fun c5 => ?_)
  · refine lv_ldc hx hb hown hc66 dX12_asleep_36 ?_
    exact ret _ A _ _ _ _ dX12_asleep_38 ⟨(by simp [-not_and, -Int32.not_le, -Int32.not_lt, noOne, noDr, mAslp, c5]), (fun j h1 h2 h3 h4 => by simp [va_up, h1, h2, h3, h4])⟩ hP hD hS
  · obtain ⟨k, h_k, rfl⟩ := rng' (m := n) (by omega) (by rw [← hC.1]; exact c5)
    have e_k : (nI k).toNatClampNeg = k := nI_clamp (by omega)
    refine lv_aload_n hx hb dX12_asleep_8 rfl (lv_at hl 0 rfl) ?_
    refine lv_iload_n hx hb dX12_asleep_9 rfl (lv_at hl 2 rfl) ?_
    refine call_i (wr := []) (ws' := (fun _ : Unit => mW cy h r v A)) (va_runV (As := [.int d0]) (rest := []) CF (k_X12_isDrawer l D cy _ h r v A d0 ) (cwV 1 hts gX12_asleep_X12_isDrawer rfl rfl rfl (by decide +kernel) ⟨Nat.le_of_ble_eq_true rfl, Nat.le_of_ble_eq_true rfl⟩) (pre_V hKN hP hD [0, 1, 2, 3, 4, 5, 6, 7, 8, 9, 10, 11, 12, 13, 14] rfl (by decide) 0 11 rfl rfl) rfl rfl hl.1 rfl (lv_room (Nat.le_of_ble_eq_true rfl)) dX12_asleep_10 ⟨Nat.le_of_ble_eq_true rfl, Nat.le_of_ble_eq_true rfl⟩) hS hA hP hD [0, 1, 2, 3, 4, 5, 6, 7, 8, 9, 10, 11, 12, 13, 14] [] [0, 1, 2, 3, 4, 5, 6, 7, 8, 9, 10, 11, 12, 13, 14] rfl rfl (by decide) (by decide) (fun _ => rfl) (by decide) (fun r5 u4 H locs hw6 hP hD hS => ?_)
    replace hw6 := hw6.symm; subst hw6
    refine ifeqB (tgt := 36) hx hb dX12_asleep_13 (by decide) (fun c13 => ?_) (fun c13 => ?_)
    · refine lv_ldc hx hb hown hc66 dX12_asleep_36 ?_
      exact ret _ A _ _ _ _ dX12_asleep_38 ⟨(by simp [-not_and, -Int32.not_le, -Int32.not_lt, noOne, noDr, mAslp, c5, e_k, c13]), (fun j h1 h2 h3 h4 => by simp [va_up, h1, h2, h3, h4])⟩ hP hD hS
    · refine lv_iload_n hx hb dX12_asleep_16 rfl (lv_at hl 3 rfl) ?_
      refine lv_iconst (v := nI 0) hx hb dX12_asleep_17 (by decide) ?_
      refine lv_bipush (v := nI 10) hx hb dX12_asleep_18 (by decide) ?_
      refine call_i (wr := [(h, .inr (11, mO r v)), ((r 0), wInt (cy 0) 8 (A 0)), ((r 1), wInt (cy 0) 8 (A 1)), ((r 2), wInt (cy 0) 320 (A 2)), ((r 5), wInt (cy 0) 60 (A 5)), ((r 12), wInt (cy 0) 37 (A 12)), ((r 13), wInt (cy 0) 37 (A 13)), ((r 14), wInt (cy 0) 37 (A 14)), ((r 15), wInt (cy 0) 37 (A 15)), ((r 16), wInt (cy 0) 74 (A 16)), ((r 17), wInt (cy 1) 2 (A 17)), ((r 18), wInt (cy 0) 888 (A 18)), ((r 20), wInt (cy 0) 16 (A 20)), ((r 22), wInt (cy 0) 16 (A 22)), ((r 23), wInt (cy 0) 24 (A 23))]) (ws' := (fun _ : Unit => mW cy h r v A)) (va_runS (As := [.int t0, .int (nI 0), .int (nI 10)]) (rest := []) CF (k_X12_in l D cy _ t0 (nI 0) (nI 10) ) (va_cwS 3 hts gX12_asleep_X12_in rfl rfl rfl (by decide +kernel) ⟨Nat.le_of_ble_eq_true rfl, Nat.le_of_ble_eq_true rfl⟩) (pre_S hKN hP hD [] rfl (by decide)) rfl rfl hl.1 rfl (lv_room (Nat.le_of_ble_eq_true rfl)) dX12_asleep_20 ⟨Nat.le_of_ble_eq_true rfl, Nat.le_of_ble_eq_true rfl⟩) hS hA hP hD [] [0, 1, 2, 3, 4, 5, 6, 7, 8, 9, 10, 11, 12, 13, 14] [0, 1, 2, 3, 4, 5, 6, 7, 8, 9, 10, 11, 12, 13, 14] rfl rfl (by decide) (by decide) (fun _ => rfl) (by decide) (fun r8 u7 H locs hw9 hP hD hS => ?_)
      replace hw9 := hw9.symm; subst hw9
      refine ifeqB (tgt := 36) hx hb dX12_asleep_23 (by decide) (fun c23 => ?_) (fun c23 => ?_)
      · refine lv_ldc hx hb hown hc66 dX12_asleep_36 ?_
        exact ret _ A _ _ _ _ dX12_asleep_38 ⟨(by simp [-not_and, -Int32.not_le, -Int32.not_lt, noOne, noDr, mAslp, c5, e_k, c13, c23]), (fun j h1 h2 h3 h4 => by simp [va_up, h1, h2, h3, h4])⟩ hP hD hS
      · obtain ⟨t, h_t, rfl⟩ := rng (m := 10) (by decide) c23
        have e_t : (nI t).toNatClampNeg = t := nI_clamp (by omega)
        refine lv_iload hx hb dX12_asleep_26 (lv_at hl 4 rfl) ?_
        refine lv_iconst (v := nI 0) hx hb dX12_asleep_28 (by decide) ?_
        refine lv_iconst (v := nI 1) hx hb dX12_asleep_29 (by decide) ?_
        refine call_i (wr := [(h, .inr (11, mO r v)), ((r 0), wInt (cy 0) 8 (A 0)), ((r 1), wInt (cy 0) 8 (A 1)), ((r 2), wInt (cy 0) 320 (A 2)), ((r 5), wInt (cy 0) 60 (A 5)), ((r 12), wInt (cy 0) 37 (A 12)), ((r 13), wInt (cy 0) 37 (A 13)), ((r 14), wInt (cy 0) 37 (A 14)), ((r 15), wInt (cy 0) 37 (A 15)), ((r 16), wInt (cy 0) 74 (A 16)), ((r 17), wInt (cy 1) 2 (A 17)), ((r 18), wInt (cy 0) 888 (A 18)), ((r 20), wInt (cy 0) 16 (A 20)), ((r 22), wInt (cy 0) 16 (A 22)), ((r 23), wInt (cy 0) 24 (A 23))]) (ws' := (fun _ : Unit => mW cy h r v A)) (va_runS (As := [.int w0, .int (nI 0), .int (nI 1)]) (rest := []) CF (k_X12_in l D cy _ w0 (nI 0) (nI 1) ) (va_cwS 3 hts gX12_asleep_X12_in rfl rfl rfl (by decide +kernel) ⟨Nat.le_of_ble_eq_true rfl, Nat.le_of_ble_eq_true rfl⟩) (pre_S hKN hP hD [] rfl (by decide)) rfl rfl hl.1 rfl (lv_room (Nat.le_of_ble_eq_true rfl)) dX12_asleep_30 ⟨Nat.le_of_ble_eq_true rfl, Nat.le_of_ble_eq_true rfl⟩) hS hA hP hD [] [0, 1, 2, 3, 4, 5, 6, 7, 8, 9, 10, 11, 12, 13, 14] [0, 1, 2, 3, 4, 5, 6, 7, 8, 9, 10, 11, 12, 13, 14] rfl rfl (by decide) (by decide) (fun _ => rfl) (by decide) (fun r11 u10 H locs hw12 hP hD hS => ?_)
        replace hw12 := hw12.symm; subst hw12
        refine ifneB (tgt := 39) hx hb dX12_asleep_33 (by decide) (fun c33 => ?_) (fun c33 => ?_)
        · refine lv_iconst (v := nI 0) hx hb dX12_asleep_39 (by decide) ?_
          refine lv_istore (lv' := [(5, .int (nI 0)), (0, .ref h), (1, .int (nI k)), (2, .int d0), (3, .int (nI t)), (4, .int w0)]) hx hb dX12_asleep_40 hl (by decide) rfl (fun ls hl => ?_)
          refine lv_iconst (v := nI 1) hx hb dX12_asleep_42 (by decide) ?_
          refine lv_istore (lv' := [(6, .int (nI 1)), (5, .int (nI 0)), (0, .ref h), (1, .int (nI k)), (2, .int d0), (3, .int (nI t)), (4, .int w0)]) hx hb dX12_asleep_43 hl (by decide) rfl (fun ls hl => ?_)
          refine lv_iconst (v := nI 0) hx hb dX12_asleep_45 (by decide) ?_
          refine lv_istore (lv' := [(7, .int (nI 0)), (6, .int (nI 1)), (5, .int (nI 0)), (0, .ref h), (1, .int (nI k)), (2, .int d0), (3, .int (nI t)), (4, .int w0)]) hx hb dX12_asleep_46 hl (by decide) rfl (fun ls hl => ?_)
          have lp48 : ∀ f_ : Nat, ∀ (o1 : Nat) (pw : Nat), (n - o1) < f_ → (o1 ≤ n) → (pw = 10 ^ o1) → ∀ (H : Heap) (locs : List Loc), va_P D vwCl (mW cy h r v A) H → va_D A_ (mW cy h r v A) → va_S A_ s_.heap H locs → ∀ ls : Array Slot, lv_has ls 10 [(0, .ref h), (1, .int (nI k)), (2, .int d0), (3, .int (nI t)), (4, .int w0), (5, .int (nI 0)), (6, .int (nI pw)), (7, .int (nI o1))] → W p_ l e_ (rmD 5) s_ m_ args_ below_ meth_ c_ H locs 0 0 Q_ (F0 m_ 48 ls []) := by
            intro f_
            induction f_ with
            | zero => intro o1 pw hm_; exact absurd hm_ (by omega)
            | succ f_ ih48 =>
              intro o1 pw hm_ ho ep H locs hP hD hS ls hl
              refine lv_iload hx hb dX12_asleep_48 (lv_at hl 7 rfl) ?_
              refine lv_aload_n hx hb dX12_asleep_50 rfl (lv_at hl 0 rfl) ?_
              refine va_get (ci := 11) (v := .ref (r 12)) (C := RX12) (T := TX12) (N := 24) hx hb hts hinX12 hown hK hP 0 rfl rfl 12 (by decide) hf22 (fun _ h9 => h9) rfl dX12_asleep_51 ?_
              refine lv_iconst (v := nI 3) hx hb dX12_asleep_54 (by decide) ?_
              refine ldN (f := (A 12)) hx hb hK hP 5 rfl (j := 3) (by omega) (by decide) dX12_asleep_55 ?_
              refine top_i hC.1 ?_
              refine geN (tgt := 72) hx hb (by omega) (by omega) dX12_asleep_56 (by decide) (fun c56 => ?_) (fun c56 => ?_)
              · have epw : pw = 10 ^ n := (by rw [ep, show o1 = n by omega])
                have hpb : pw ≤ 100000000 := (by rw [epw]; exact (ten_bd hn).2)
                have hp0 : 0 < pw := (by rw [epw]; exact (ten_bd hn).1)
                refine lv_iconst (v := nI 0) hx hb dX12_asleep_72 (by decide) ?_
                refine lv_istore (lv' := [(7, .int (nI 0)), (0, .ref h), (1, .int (nI k)), (2, .int d0), (3, .int (nI t)), (4, .int w0), (5, .int (nI 0)), (6, .int (nI pw))]) hx hb dX12_asleep_73 hl (by decide) rfl (fun ls hl => ?_)
                have lp75 : ∀ f_ : Nat, ∀ (i : Nat) (us : Nat) (ft : Nat → Int32), (z2 - i) < f_ → (i ≤ z2) → (us = upN (A 12) n k d0 t i) → ∀ (H : Heap) (locs : List Loc), va_P D vwCl (mW cy h r v (va_up A 14 ft)) H → va_D A_ (mW cy h r v (va_up A 14 ft)) → va_S A_ s_.heap H locs → ∀ ls : Array Slot, lv_has ls 10 [(0, .ref h), (1, .int (nI k)), (2, .int d0), (3, .int (nI t)), (4, .int w0), (5, .int (nI us)), (6, .int (nI pw)), (7, .int (nI i))] → W p_ l e_ (rmD 5) s_ m_ args_ below_ meth_ c_ H locs 0 0 Q_ (F0 m_ 75 ls []) := by
                  intro f_
                  induction f_ with
                  | zero => intro i us ft hm_; exact absurd hm_ (by omega)
                  | succ f_ ih75 =>
                    intro i us ft hm_ hi eu H locs hP hD hS ls hl
                    refine lv_iload hx hb dX12_asleep_75 (lv_at hl 7 rfl) ?_
                    refine lv_iconst (v := nI 1) hx hb dX12_asleep_77 (by decide) ?_
                    refine lv_aload_n hx hb dX12_asleep_78 rfl (lv_at hl 0 rfl) ?_
                    refine va_get (ci := 11) (v := .ref (r 12)) (C := RX12) (T := TX12) (N := 24) hx hb hts hinX12 hown hK hP 0 rfl rfl 12 (by decide) hf22 (fun _ h9 => h9) rfl dX12_asleep_79 ?_
                    refine lv_iconst (v := nI 3) hx hb dX12_asleep_82 (by decide) ?_
                    refine ldN (f := (A 12)) hx hb hK hP 5 rfl (j := 3) (by omega) (by decide) dX12_asleep_83 ?_
                    refine top_i hC.1 ?_
                    refine lv_ishl hx hb dX12_asleep_84 ?_
                    refine top_i (y := nI z2) ((shl1 hn).trans (congrArg nI hz2.symm)) ?_
                    refine geN (tgt := 177) hx hb (by omega) (by omega) dX12_asleep_85 (by decide) (fun c85 => ?_) (fun c85 => ?_)
                    · have hi9 : i = z2 := (by omega)
                      have hub : us ≤ 100000000 := (by rw [eu]; exact upN_bd _ _ hn h_t (by omega))
                      have htb := ten_bd hn
                      refine lv_iload hx hb dX12_asleep_177 (lv_at hl 5 rfl) ?_
                      refine lv_istore (lv' := [(7, .int (nI us)), (0, .ref h), (1, .int (nI k)), (2, .int d0), (3, .int (nI t)), (4, .int w0), (5, .int (nI us)), (6, .int (nI pw))]) hx hb dX12_asleep_179 hl (by decide) rfl (fun ls hl => ?_)
                      refine lv_iload hx hb dX12_asleep_181 (lv_at hl 7 rfl) ?_
                      refine lv_istore (lv' := [(8, .int (nI pw)), (7, .int (nI us)), (0, .ref h), (1, .int (nI k)), (2, .int d0), (3, .int (nI t)), (4, .int w0), (5, .int (nI us)), (6, .int (nI pw))]) hx hb dX12_asleep_183 hl (by decide) rfl (fun ls hl => ?_)
                      have lp185 : ∀ f_ : Nat, ∀ (ga : Nat) (gb : Nat), (gb) < f_ → (ga ≤ 100000000) → (gb ≤ 100000000) → (Nat.gcd ga gb = Nat.gcd us (10 ^ n)) → ∀ (H : Heap) (locs : List Loc), va_P D vwCl (mW cy h r v (va_up A 14 ft)) H → va_D A_ (mW cy h r v (va_up A 14 ft)) → va_S A_ s_.heap H locs → ∀ ls : Array Slot, lv_has ls 10 [(0, .ref h), (1, .int (nI k)), (2, .int d0), (3, .int (nI t)), (4, .int w0), (5, .int (nI us)), (6, .int (nI pw)), (7, .int (nI ga)), (8, .int (nI gb))] → W p_ l e_ (rmD 5) s_ m_ args_ below_ meth_ c_ H locs 0 0 Q_ (F0 m_ 185 ls []) := by
                        intro f_
                        induction f_ with
                        | zero => intro ga gb hm_; exact absurd hm_ (by omega)
                        | succ f_ ih185 =>
                          intro ga gb hm_ hga hgb eg H locs hP hD hS ls hl
                          refine lv_iload hx hb dX12_asleep_185 (lv_at hl 8 rfl) ?_
                          refine ifleN (tgt := 208) hx hb (by omega) dX12_asleep_187 (by decide) (fun c187 => ?_) (fun c187 => ?_)
                          · have hg0 : 0 < ga := (by have q := Nat.gcd_pos_of_pos_right us (ten_bd hn).1; rw [← eg, c187, Nat.gcd_zero_right] at q; exact q)
                            refine lv_iload hx hb dX12_asleep_208 (lv_at hl 4 rfl) ?_
                            refine lv_if_ne (tgt := 218) hx hb dX12_asleep_210 (by decide) (fun c210 => ?_) (fun c210 => ?_)
                            · refine lv_iload hx hb dX12_asleep_218 (lv_at hl 6 rfl) ?_
                              refine lv_iload hx hb dX12_asleep_220 (lv_at hl 7 rfl) ?_
                              refine lv_idiv hx hb dX12_asleep_222 (nI_ne0 (by omega) (by omega)) ?_
                              refine top_i (y := nI (pw / ga)) (pk_div (by omega) (by omega) (by omega)) ?_
                              exact ret _ (va_up A 14 ft) _ _ _ _ dX12_asleep_223 ⟨(by have e8 : ga = Nat.gcd us (10 ^ n) := (by rw [← eg, c187, Nat.gcd_zero_right]); rw [mAslp, if_neg (fun h => h.elim (fun h => h c5) (fun h => h.elim (fun h => h c13) (fun h => h.elim (fun h => h c23) (fun h => h c33)))), show cl (nI k) = k from e_k, show cl (nI t) = t from e_t, ← hz2, ← hi9, ← eu, ← e8]; first | (rw [if_pos c210]; done) | (rw [if_neg c210, epw]; done)), (fun j h1 h2 h3 h4 => by simp [va_up, h1, h2, h3, h4])⟩ hP hD hS
                            · refine lv_iload hx hb dX12_asleep_213 (lv_at hl 5 rfl) ?_
                              refine lv_goto (tgt := 220) hx hb dX12_asleep_215 (by decide) ?_
                              refine lv_iload hx hb dX12_asleep_220 (lv_at hl 7 rfl) ?_
                              refine lv_idiv hx hb dX12_asleep_222 (nI_ne0 (by omega) (by omega)) ?_
                              refine top_i (y := nI (us / ga)) (pk_div (by omega) (by omega) (by omega)) ?_
                              exact ret _ (va_up A 14 ft) _ _ _ _ dX12_asleep_223 ⟨(by have e8 : ga = Nat.gcd us (10 ^ n) := (by rw [← eg, c187, Nat.gcd_zero_right]); rw [mAslp, if_neg (fun h => h.elim (fun h => h c5) (fun h => h.elim (fun h => h c13) (fun h => h.elim (fun h => h c23) (fun h => h c33)))), show cl (nI k) = k from e_k, show cl (nI t) = t from e_t, ← hz2, ← hi9, ← eu, ← e8]; first | (rw [if_pos c210]; done) | (rw [if_neg c210, epw]; done)), (fun j h1 h2 h3 h4 => by simp [va_up, h1, h2, h3, h4])⟩ hP hD hS
                          · have hml := Nat.mod_lt ga c187
                            refine lv_iload hx hb dX12_asleep_190 (lv_at hl 7 rfl) ?_
                            refine lv_iload hx hb dX12_asleep_192 (lv_at hl 8 rfl) ?_
                            refine lv_irem hx hb dX12_asleep_194 (nI_ne0 (by omega) (by omega)) ?_
                            refine top_i (y := nI (ga % gb)) (pk_rem (by omega) (by omega) (by omega)) ?_
                            refine lv_istore (lv' := [(9, .int (nI (ga % gb))), (0, .ref h), (1, .int (nI k)), (2, .int d0), (3, .int (nI t)), (4, .int w0), (5, .int (nI us)), (6, .int (nI pw)), (7, .int (nI ga)), (8, .int (nI gb))]) hx hb dX12_asleep_195 hl (by decide) rfl (fun ls hl => ?_)
                            refine lv_iload hx hb dX12_asleep_197 (lv_at hl 9 rfl) ?_
                            refine lv_istore (lv' := [(7, .int (nI gb)), (9, .int (nI (ga % gb))), (0, .ref h), (1, .int (nI k)), (2, .int d0), (3, .int (nI t)), (4, .int w0), (5, .int (nI us)), (6, .int (nI pw)), (8, .int (nI gb))]) hx hb dX12_asleep_199 hl (by decide) rfl (fun ls hl => ?_)
                            refine lv_iload hx hb dX12_asleep_201 (lv_at hl 1 rfl) ?_
                            refine lv_istore (lv' := [(8, .int (nI (ga % gb))), (7, .int (nI gb)), (9, .int (nI (ga % gb))), (0, .ref h), (1, .int (nI k)), (2, .int d0), (3, .int (nI t)), (4, .int w0), (5, .int (nI us)), (6, .int (nI pw))]) hx hb dX12_asleep_203 hl (by decide) rfl (fun ls hl => ?_)
                            refine lv_goto (tgt := 185) hx hb dX12_asleep_205 (by decide) ?_
                            exact ih185 gb (ga % gb) (by omega) hgb (by have q := Nat.mod_lt ga c187; omega) (by rw [gcd_st]; exact eg) _ _ hP hD hS ls (lv_sub hl [3, 4, 5, 6, 7, 8, 9, 1, 0] rfl)
                      exact lp185 (pw + 1) us pw (by omega) hub hpb (by rw [epw]) _ _ hP hD hS ls (lv_sub hl [2, 3, 4, 5, 6, 7, 8, 1, 0] rfl)
                    · refine lv_iconst (v := nI 1) hx hb dX12_asleep_88 (by decide) ?_
                      refine lv_istore (lv' := [(8, .int (nI 1)), (0, .ref h), (1, .int (nI k)), (2, .int d0), (3, .int (nI t)), (4, .int w0), (5, .int (nI us)), (6, .int (nI pw)), (7, .int (nI i))]) hx hb dX12_asleep_89 hl (by decide) rfl (fun ls hl => ?_)
                      refine lv_iconst (v := nI 0) hx hb dX12_asleep_91 (by decide) ?_
                      refine lv_istore (lv' := [(9, .int (nI 0)), (8, .int (nI 1)), (0, .ref h), (1, .int (nI k)), (2, .int d0), (3, .int (nI t)), (4, .int w0), (5, .int (nI us)), (6, .int (nI pw)), (7, .int (nI i))]) hx hb dX12_asleep_92 hl (by decide) rfl (fun ls hl => ?_)
                      have lp94 : ∀ f_ : Nat, ∀ (o : Nat) (od : Nat), (n - o) < f_ → (o ≤ n) → (od = oddB i t o) → ∀ (H : Heap) (locs : List Loc), va_P D vwCl (mW cy h r v (va_up A 14 ft)) H → va_D A_ (mW cy h r v (va_up A 14 ft)) → va_S A_ s_.heap H locs → ∀ ls : Array Slot, lv_has ls 10 [(0, .ref h), (1, .int (nI k)), (2, .int d0), (3, .int (nI t)), (4, .int w0), (5, .int (nI us)), (6, .int (nI pw)), (7, .int (nI i)), (8, .int (nI od)), (9, .int (nI o))] → W p_ l e_ (rmD 5) s_ m_ args_ below_ meth_ c_ H locs 0 0 Q_ (F0 m_ 94 ls []) := by
                        intro f_
                        induction f_ with
                        | zero => intro o od hm_; exact absurd hm_ (by omega)
                        | succ f_ ih94 =>
                          intro o od hm_ ho eq H locs hP hD hS ls hl
                          refine lv_iload hx hb dX12_asleep_94 (lv_at hl 9 rfl) ?_
                          refine lv_aload_n hx hb dX12_asleep_96 rfl (lv_at hl 0 rfl) ?_
                          refine va_get (ci := 11) (v := .ref (r 12)) (C := RX12) (T := TX12) (N := 24) hx hb hts hinX12 hown hK hP 0 rfl rfl 12 (by decide) hf22 (fun _ h9 => h9) rfl dX12_asleep_97 ?_
                          refine lv_iconst (v := nI 3) hx hb dX12_asleep_100 (by decide) ?_
                          refine ldN (f := (A 12)) hx hb hK hP 5 rfl (j := 3) (by omega) (by decide) dX12_asleep_101 ?_
                          refine top_i hC.1 ?_
                          refine geN (tgt := 134) hx hb (by omega) (by omega) dX12_asleep_102 (by decide) (fun c102 => ?_) (fun c102 => ?_)
                          · refine lv_aload_n hx hb dX12_asleep_134 rfl (lv_at hl 0 rfl) ?_
                            refine call_v (wr := []) (ws' := (fun _ : Unit => mW cy h r v (va_up A 14 (A 12)))) (va_runV (As := []) (rest := []) CF (k_X12_begin l D cy _ h r v (va_up A 14 ft) ) (cwV 0 hts gX12_asleep_X12_begin rfl rfl rfl (by decide +kernel) ⟨Nat.le_of_ble_eq_true rfl, Nat.le_of_ble_eq_true rfl⟩) (pre_V hKN hP hD [0, 1, 2, 3, 4, 5, 6, 7, 8, 9, 10, 11, 12, 13, 14] rfl (by decide) 0 11 rfl rfl) rfl rfl hl.1 rfl (lv_room (Nat.le_of_ble_eq_true rfl)) dX12_asleep_135 ⟨Nat.le_of_ble_eq_true rfl, Nat.le_of_ble_eq_true rfl⟩) hS hA hP hD [0, 1, 2, 3, 4, 5, 6, 7, 8, 9, 10, 11, 12, 13, 14] [] [0, 1, 2, 3, 4, 5, 6, 7, 8, 9, 10, 11, 12, 13, 14] rfl rfl (by decide) (by decide) (fun _ => rfl) (by decide) (fun u13 H locs hw15 hP hD hS => ?_)
                            refine lv_aload_n hx hb dX12_asleep_138 rfl (lv_at hl 0 rfl) ?_
                            refine va_get (ci := 11) (v := .ref (r 14)) (C := RX12) (T := TX12) (N := 24) hx hb hts hinX12 hown hK hP 0 rfl rfl 14 (by decide) hf28 (fun _ h9 => h9) rfl dX12_asleep_139 ?_
                            refine lv_iload hx hb dX12_asleep_142 (lv_at hl 7 rfl) ?_
                            refine call_v (wr := [(h, .inr (11, mO r v)), ((r 0), wInt (cy 0) 8 (A 0)), ((r 1), wInt (cy 0) 8 (A 1)), ((r 2), wInt (cy 0) 320 (A 2)), ((r 5), wInt (cy 0) 60 (A 5)), ((r 12), wInt (cy 0) 37 (A 12)), ((r 13), wInt (cy 0) 37 (A 13)), ((r 15), wInt (cy 0) 37 (A 15)), ((r 16), wInt (cy 0) 74 (A 16)), ((r 17), wInt (cy 1) 2 (A 17)), ((r 18), wInt (cy 0) 888 (A 18)), ((r 20), wInt (cy 0) 16 (A 20)), ((r 22), wInt (cy 0) 16 (A 22)), ((r 23), wInt (cy 0) 24 (A 23))]) (ws' := (fun u16 : (Nat → Int32) => mW cy h r v (va_up A 14 u16))) (va_runS (As := [.ref (r 14), .int (nI i)]) (rest := []) CF (k_X12_nightIn l D cy _ (r 14) (A 12) (nI i) n hC) (va_cwS 2 hts gX12_asleep_X12_nightIn rfl rfl rfl (by decide +kernel) ⟨Nat.le_of_ble_eq_true rfl, Nat.le_of_ble_eq_true rfl⟩) (pre_S hKN hP hD [7] rfl (by decide)) rfl rfl hl.1 rfl (lv_room (Nat.le_of_ble_eq_true rfl)) dX12_asleep_144 ⟨Nat.le_of_ble_eq_true rfl, Nat.le_of_ble_eq_true rfl⟩) hS hA hP hD [7] [0, 1, 2, 3, 4, 5, 6, 8, 9, 10, 11, 12, 13, 14] [0, 1, 2, 3, 4, 5, 6, 14, 7, 8, 9, 10, 11, 12, 13] rfl rfl (by decide) (by decide) (fun _ => rfl) (by decide) (fun u16 H locs hw18 hP hD hS => ?_)
                            replace hw18 := hw18.symm; subst hw18
                            have hP : va_P D vwCl (mW cy h r v (va_up A 14 (nightS (A 12) n (nI i)))) H := hP
                            have hD : va_D A_ (mW cy h r v (va_up A 14 (nightS (A 12) n (nI i)))) := hD
                            refine lv_iload hx hb dX12_asleep_147 (lv_at hl 5 rfl) ?_
                            refine lv_aload_n hx hb dX12_asleep_149 rfl (lv_at hl 0 rfl) ?_
                            refine va_get (ci := 11) (v := .ref (r 14)) (C := RX12) (T := TX12) (N := 24) hx hb hts hinX12 hown hK hP 0 rfl rfl 14 (by decide) hf28 (fun _ h9 => h9) rfl dX12_asleep_150 ?_
                            refine lv_bipush (v := nI 21) hx hb dX12_asleep_153 (by decide) ?_
                            refine lv_iload_n hx hb dX12_asleep_155 rfl (lv_at hl 1 rfl) ?_
                            refine adN (k := 21 + k) hx hb rfl dX12_asleep_156 ?_
                            refine ldN (f := nightS (A 12) n (nI i)) hx hb hK hP 7 rfl (j := 21 + k) (by omega) (by decide) dX12_asleep_157 ?_
                            refine lv_iload_n hx hb dX12_asleep_158 rfl (lv_at hl 2 rfl) ?_
                            refine lv_icmp_ne (tgt := 167) hx hb dX12_asleep_159 (by decide) (fun c159 => ?_) (fun c159 => ?_)
                            · refine lv_iconst (v := nI 0) hx hb dX12_asleep_167 (by decide) ?_
                              refine adN (k := us) hx hb (by omega) dX12_asleep_168 ?_
                              refine lv_istore (lv' := [(5, .int (nI us)), (0, .ref h), (1, .int (nI k)), (2, .int d0), (3, .int (nI t)), (4, .int w0), (6, .int (nI pw)), (7, .int (nI i)), (8, .int (nI od)), (9, .int (nI o))]) hx hb dX12_asleep_169 hl (by decide) rfl (fun ls hl => ?_)
                              refine lv_iinc (v := nI (i + 1)) (lv' := [(7, .int (nI (i + 1))), (5, .int (nI us)), (0, .ref h), (1, .int (nI k)), (2, .int d0), (3, .int (nI t)), (4, .int w0), (6, .int (nI pw)), (8, .int (nI od)), (9, .int (nI o))]) hx hb dX12_asleep_171 hl (k := 7) rfl (nI_1 _) (by decide) rfl (fun ls hl => ?_)
                              refine lv_goto (tgt := 75) hx hb dX12_asleep_174 (by decide) ?_
                              exact ih75 (i + 1) us (nightS (A 12) n (nI i)) (by omega) (by omega) (by have e9 : o = n := (by omega); subst e9; first | (rw [upN, ← eu, if_pos c159, eq]; done) | (rw [upN, ← eu, if_neg c159]; exact (Nat.add_zero us).symm)) _ _ hP hD hS ls (lv_sub hl [2, 3, 4, 5, 6, 1, 7, 0] rfl)
                            · refine lv_iload hx hb dX12_asleep_162 (lv_at hl 8 rfl) ?_
                              refine lv_goto (tgt := 168) hx hb dX12_asleep_164 (by decide) ?_
                              refine adN (k := us + od) hx hb rfl dX12_asleep_168 ?_
                              refine lv_istore (lv' := [(5, .int (nI (us + od))), (0, .ref h), (1, .int (nI k)), (2, .int d0), (3, .int (nI t)), (4, .int w0), (6, .int (nI pw)), (7, .int (nI i)), (8, .int (nI od)), (9, .int (nI o))]) hx hb dX12_asleep_169 hl (by decide) rfl (fun ls hl => ?_)
                              refine lv_iinc (v := nI (i + 1)) (lv' := [(7, .int (nI (i + 1))), (5, .int (nI (us + od))), (0, .ref h), (1, .int (nI k)), (2, .int d0), (3, .int (nI t)), (4, .int w0), (6, .int (nI pw)), (8, .int (nI od)), (9, .int (nI o))]) hx hb dX12_asleep_171 hl (k := 7) rfl (nI_1 _) (by decide) rfl (fun ls hl => ?_)
                              refine lv_goto (tgt := 75) hx hb dX12_asleep_174 (by decide) ?_
                              exact ih75 (i + 1) (us + od) (nightS (A 12) n (nI i)) (by omega) (by omega) (by have e9 : o = n := (by omega); subst e9; first | (rw [upN, ← eu, if_pos c159, eq]; done) | (rw [upN, ← eu, if_neg c159]; exact (Nat.add_zero us).symm)) _ _ hP hD hS ls (lv_sub hl [2, 3, 4, 5, 6, 1, 7, 0] rfl)
                          · refine lv_iload hx hb dX12_asleep_105 (lv_at hl 8 rfl) ?_
                            refine lv_iload hx hb dX12_asleep_107 (lv_at hl 7 rfl) ?_
                            refine lv_iload hx hb dX12_asleep_109 (lv_at hl 9 rfl) ?_
                            refine call_i (wr := [(h, .inr (11, mO r v)), ((r 0), wInt (cy 0) 8 (A 0)), ((r 1), wInt (cy 0) 8 (A 1)), ((r 2), wInt (cy 0) 320 (A 2)), ((r 5), wInt (cy 0) 60 (A 5)), ((r 12), wInt (cy 0) 37 (A 12)), ((r 13), wInt (cy 0) 37 (A 13)), ((r 14), wInt (cy 0) 37 ft), ((r 15), wInt (cy 0) 37 (A 15)), ((r 16), wInt (cy 0) 74 (A 16)), ((r 17), wInt (cy 1) 2 (A 17)), ((r 18), wInt (cy 0) 888 (A 18)), ((r 20), wInt (cy 0) 16 (A 20)), ((r 22), wInt (cy 0) 16 (A 22)), ((r 23), wInt (cy 0) 24 (A 23))]) (ws' := (fun _ : Unit => mW cy h r v (va_up A 14 ft))) (va_runS (As := [.int (nI i), .int (nI o)]) (rest := [.int (nI od)]) CF (k_X12_isIn l D cy _ (nI i) o ) (va_cwS 2 hts gX12_asleep_X12_isIn rfl rfl rfl (by decide +kernel) ⟨Nat.le_of_ble_eq_true rfl, Nat.le_of_ble_eq_true rfl⟩) (pre_S hKN hP hD [] rfl (by decide)) rfl rfl hl.1 rfl (lv_room (Nat.le_of_ble_eq_true rfl)) dX12_asleep_111 ⟨Nat.le_of_ble_eq_true rfl, Nat.le_of_ble_eq_true rfl⟩) hS hA hP hD [] [0, 1, 2, 3, 4, 5, 6, 7, 8, 9, 10, 11, 12, 13, 14] [0, 1, 2, 3, 4, 5, 6, 7, 8, 9, 10, 11, 12, 13, 14] rfl rfl (by decide) (by decide) (fun _ => rfl) (by decide) (fun r20 u19 H locs hw21 hP hD hS => ?_)
                            replace hw21 := hw21.symm; subst hw21
                            refine ifeqB (tgt := 121) hx hb dX12_asleep_114 (by decide) (fun c114 => ?_) (fun c114 => ?_)
                            · refine lv_bipush (v := nI 10) hx hb dX12_asleep_121 (by decide) ?_
                              refine lv_iload_n hx hb dX12_asleep_123 rfl (lv_at hl 3 rfl) ?_
                              refine suN (k := 10 - t) hx hb (by omega) dX12_asleep_124 ?_
                              refine muN (k := od * (10 - t)) hx hb rfl dX12_asleep_125 ?_
                              refine lv_istore (lv' := [(8, .int (nI (od * (10 - t)))), (0, .ref h), (1, .int (nI k)), (2, .int d0), (3, .int (nI t)), (4, .int w0), (5, .int (nI us)), (6, .int (nI pw)), (7, .int (nI i)), (9, .int (nI o))]) hx hb dX12_asleep_126 hl (by decide) rfl (fun ls hl => ?_)
                              refine lv_iinc (v := nI (o + 1)) (lv' := [(9, .int (nI (o + 1))), (8, .int (nI (od * (10 - t)))), (0, .ref h), (1, .int (nI k)), (2, .int d0), (3, .int (nI t)), (4, .int w0), (5, .int (nI us)), (6, .int (nI pw)), (7, .int (nI i))]) hx hb dX12_asleep_128 hl (k := 9) rfl (nI_1 _) (by decide) rfl (fun ls hl => ?_)
                              refine lv_goto (tgt := 94) hx hb dX12_asleep_131 (by decide) ?_
                              exact ih94 (o + 1) (od * (10 - t)) (by omega) (by omega) (by rw [oddB, ← eq]; first | (rw [if_pos ((bit_is (by omega) (by omega)).mp c114)]; done) | (rw [if_neg (fun q => c114 ((bit_is (by omega) (by omega)).mpr q))]; done)) _ _ hP hD hS ls (lv_sub hl [2, 3, 4, 5, 6, 7, 8, 9, 1, 0] rfl)
                            · refine lv_iload_n hx hb dX12_asleep_117 rfl (lv_at hl 3 rfl) ?_
                              refine lv_goto (tgt := 125) hx hb dX12_asleep_118 (by decide) ?_
                              refine muN (k := od * t) hx hb rfl dX12_asleep_125 ?_
                              refine lv_istore (lv' := [(8, .int (nI (od * t))), (0, .ref h), (1, .int (nI k)), (2, .int d0), (3, .int (nI t)), (4, .int w0), (5, .int (nI us)), (6, .int (nI pw)), (7, .int (nI i)), (9, .int (nI o))]) hx hb dX12_asleep_126 hl (by decide) rfl (fun ls hl => ?_)
                              refine lv_iinc (v := nI (o + 1)) (lv' := [(9, .int (nI (o + 1))), (8, .int (nI (od * t))), (0, .ref h), (1, .int (nI k)), (2, .int d0), (3, .int (nI t)), (4, .int w0), (5, .int (nI us)), (6, .int (nI pw)), (7, .int (nI i))]) hx hb dX12_asleep_128 hl (k := 9) rfl (nI_1 _) (by decide) rfl (fun ls hl => ?_)
                              refine lv_goto (tgt := 94) hx hb dX12_asleep_131 (by decide) ?_
                              exact ih94 (o + 1) (od * t) (by omega) (by omega) (by rw [oddB, ← eq]; first | (rw [if_pos ((bit_is (by omega) (by omega)).mp c114)]; done) | (rw [if_neg (fun q => c114 ((bit_is (by omega) (by omega)).mpr q))]; done)) _ _ hP hD hS ls (lv_sub hl [2, 3, 4, 5, 6, 7, 8, 9, 1, 0] rfl)
                      exact lp94 (n - 0 + 1) 0 1 (by omega) (by omega) rfl _ _ hP hD hS ls (lv_sub hl [2, 3, 4, 5, 6, 7, 8, 9, 1, 0] rfl)
                exact lp75 (z2 - 0 + 1) 0 0 (A 14) (by omega) (by omega) rfl _ _ hP hD hS ls (lv_sub hl [1, 2, 3, 4, 5, 6, 7, 0] rfl)
              · refine lv_iload hx hb dX12_asleep_59 (lv_at hl 6 rfl) ?_
                refine lv_bipush (v := nI 10) hx hb dX12_asleep_61 (by decide) ?_
                refine muN (k := pw * 10) hx hb rfl dX12_asleep_63 ?_
                refine lv_istore (lv' := [(6, .int (nI (pw * 10))), (0, .ref h), (1, .int (nI k)), (2, .int d0), (3, .int (nI t)), (4, .int w0), (5, .int (nI 0)), (7, .int (nI o1))]) hx hb dX12_asleep_64 hl (by decide) rfl (fun ls hl => ?_)
                refine lv_iinc (v := nI (o1 + 1)) (lv' := [(7, .int (nI (o1 + 1))), (6, .int (nI (pw * 10))), (0, .ref h), (1, .int (nI k)), (2, .int d0), (3, .int (nI t)), (4, .int w0), (5, .int (nI 0))]) hx hb dX12_asleep_66 hl (k := 7) rfl (nI_1 _) (by decide) rfl (fun ls hl => ?_)
                refine lv_goto (tgt := 48) hx hb dX12_asleep_69 (by decide) ?_
                exact ih48 (o1 + 1) (pw * 10) (by omega) (by omega) (by rw [ep]; rfl) _ _ hP hD hS ls (lv_sub hl [2, 3, 4, 5, 6, 7, 1, 0] rfl)
          exact lp48 (n - 0 + 1) 0 1 (by omega) (by omega) rfl _ _ hP hD hS ls (lv_sub hl [3, 4, 5, 6, 7, 2, 1, 0] rfl)
        · refine lv_ldc hx hb hown hc66 dX12_asleep_36 ?_
          exact ret _ A _ _ _ _ dX12_asleep_38 ⟨(by simp [-not_and, -Int32.not_le, -Int32.not_lt, noOne, noDr, mAslp, c5, e_k, c13, c23, e_t, c33]), (fun j h1 h2 h3 h4 => by simp [va_up, h1, h2, h3, h4])⟩ hP hD hS
set_option maxHeartbeats 4000000 in
set_option maxRecDepth 100000 in
theorem k_X12_drawn (l : Launch) (D : va_G) (cy : Nat → ClassId) (sz : Nat) (h : Nat) (r : Nat → Nat) (v : Nat → Int32) (A : Nat → Nat → Int32) (n : Nat) (dr : Nat) (m0 : Int32) (x0 : Int32) (w0 : Int32) (hC : Cat (A 12) n) (hd : A 12 1 = nI dr) (hd6 : dr ≤ 6) (h1 : A 12 4 = nI 1 → 0 < n ∧ 0 < dr) : Met l yX12_drawn wsX12_drawn (rmD 6) (pPre D (TY cy) (mW cy h r v A) sz [.ref h, .int m0, .int x0, .int w0]) (pI D (TY cy) (mW cy h r v A) sz (fun A2 : Nat → Nat → Int32 => mW cy h r v A2) (fun (r_ : Int32) (u : (Nat → Nat → Int32)) => r_ = mDrwn A n dr m0 x0 w0 ∧ scr u A)) 0 0 (va_A (mW cy h r v A) sz) := by
  refine ent_i (cc := cX12_drawn) (maxL := 10) (by decide +kernel) rfl (Nat.le_of_ble_eq_true rfl) ?_
  intro p_ e_ s_ m_ args_ below_ meth_ c_ A_ Q_ ls B0 ret
  obtain ⟨CF, hA, hKN, hP, hD, hl⟩ := B0
  have hK := hKN.1
  obtain ⟨hx, hb, hml, hown, hts⟩ := id CF
  have hS : va_S A_ s_.heap s_.heap [] := va_S.rf
  have hl : lv_has ls 10 [(0, .ref h), (1, .int m0), (2, .int x0), (3, .int w0)] := hl
  have hc66 := hts (.constant RX12 66 (-1000001)) (by decide +kernel)
  have hc213 := hts (.constant RX12 213 (999999)) (by decide +kernel)
  have hf28 := hts (.fieldLink RX12 28 "DrawerCardsModel" "tried" "[I") (by decide +kernel)
  have hinX12 := show ∀ w ∈ u_ws RX12 TX12 24, w ∈ wsX12_drawn from by decide +kernel
  have hcl214 := hts (.constantLong RX12 214 (16807)) (by decide +kernel)
  have hcl216 := hts (.constantLong RX12 216 (2147483647)) (by decide +kernel)
  have hf22 := hts (.fieldLink RX12 22 "DrawerCardsModel" "now" "[I") (by decide +kernel)
  have hc172 := hts (.constant RX12 172 (-1000002)) (by decide +kernel)
  have hn := hC.2.1
  refine lv_aload_n hx hb dX12_drawn_0 rfl (lv_at hl 0 rfl) ?_
  refine call_i (wr := []) (ws' := (fun _ : Unit => mW cy h r v A)) (va_runV (As := []) (rest := []) CF (k_X12_isThere l D cy _ h r v A ) (cwV 0 hts gX12_drawn_X12_isThere rfl rfl rfl (by decide +kernel) ⟨Nat.le_of_ble_eq_true rfl, Nat.le_of_ble_eq_true rfl⟩) (pre_V hKN hP hD [0, 1, 2, 3, 4, 5, 6, 7, 8, 9, 10, 11, 12, 13, 14] rfl (by decide) 0 11 rfl rfl) rfl rfl hl.1 rfl (lv_room (Nat.le_of_ble_eq_true rfl)) dX12_drawn_1 ⟨Nat.le_of_ble_eq_true rfl, Nat.le_of_ble_eq_true rfl⟩) hS hA hP hD [0, 1, 2, 3, 4, 5, 6, 7, 8, 9, 10, 11, 12, 13, 14] [] [0, 1, 2, 3, 4, 5, 6, 7, 8, 9, 10, 11, 12, 13, 14] rfl rfl (by decide) (by decide) (fun _ => rfl) (by decide) (fun r2 u1 H locs hw3 hP hD hS => ?_)
  replace hw3 := hw3.symm; subst hw3
  refine ifneB (tgt := 10) hx hb dX12_drawn_4 (by decide) (fun c4 => ?_) (fun c4 => ?_)
  · refine lv_iload_n hx hb dX12_drawn_10 rfl (lv_at hl 1 rfl) ?_
    refine lv_iconst (v := nI 0) hx hb dX12_drawn_11 (by decide) ?_
    refine lv_bipush (v := nI 60) hx hb dX12_drawn_12 (by decide) ?_
    refine call_i (wr := [(h, .inr (11, mO r v)), ((r 0), wInt (cy 0) 8 (A 0)), ((r 1), wInt (cy 0) 8 (A 1)), ((r 2), wInt (cy 0) 320 (A 2)), ((r 5), wInt (cy 0) 60 (A 5)), ((r 12), wInt (cy 0) 37 (A 12)), ((r 13), wInt (cy 0) 37 (A 13)), ((r 14), wInt (cy 0) 37 (A 14)), ((r 15), wInt (cy 0) 37 (A 15)), ((r 16), wInt (cy 0) 74 (A 16)), ((r 17), wInt (cy 1) 2 (A 17)), ((r 18), wInt (cy 0) 888 (A 18)), ((r 20), wInt (cy 0) 16 (A 20)), ((r 22), wInt (cy 0) 16 (A 22)), ((r 23), wInt (cy 0) 24 (A 23))]) (ws' := (fun _ : Unit => mW cy h r v A)) (va_runS (As := [.int m0, .int (nI 0), .int (nI 60)]) (rest := []) CF (k_X12_in l D cy _ m0 (nI 0) (nI 60) ) (va_cwS 3 hts gX12_drawn_X12_in rfl rfl rfl (by decide +kernel) ⟨Nat.le_of_ble_eq_true rfl, Nat.le_of_ble_eq_true rfl⟩) (pre_S hKN hP hD [] rfl (by decide)) rfl rfl hl.1 rfl (lv_room (Nat.le_of_ble_eq_true rfl)) dX12_drawn_14 ⟨Nat.le_of_ble_eq_true rfl, Nat.le_of_ble_eq_true rfl⟩) hS hA hP hD [] [0, 1, 2, 3, 4, 5, 6, 7, 8, 9, 10, 11, 12, 13, 14] [0, 1, 2, 3, 4, 5, 6, 7, 8, 9, 10, 11, 12, 13, 14] rfl rfl (by decide) (by decide) (fun _ => rfl) (by decide) (fun r5 u4 H locs hw6 hP hD hS => ?_)
    replace hw6 := hw6.symm; subst hw6
    refine ifeqB (tgt := 39) hx hb dX12_drawn_17 (by decide) (fun c17 => ?_) (fun c17 => ?_)
    · refine lv_ldc hx hb hown hc66 dX12_drawn_39 ?_
      exact ret _ A _ _ _ _ dX12_drawn_41 ⟨(by simp [-not_and, -Int32.not_le, -Int32.not_lt, noOne, noDr, mDrwn, c4, c17]), (fun j h1 h2 h3 h4 => by simp [va_up, h1, h2, h3, h4])⟩ hP hD hS
    · obtain ⟨m, h_m, rfl⟩ := rng (m := 60) (by decide) c17
      have e_m : (nI m).toNatClampNeg = m := nI_clamp (by omega)
      refine lv_iload_n hx hb dX12_drawn_20 rfl (lv_at hl 2 rfl) ?_
      refine lv_iconst (v := nI 1) hx hb dX12_drawn_21 (by decide) ?_
      refine lv_ldc hx hb hown hc213 dX12_drawn_22 (top_i (show (999999 : Int32) = nI 999999 from rfl) ?_)
      refine call_i (wr := [(h, .inr (11, mO r v)), ((r 0), wInt (cy 0) 8 (A 0)), ((r 1), wInt (cy 0) 8 (A 1)), ((r 2), wInt (cy 0) 320 (A 2)), ((r 5), wInt (cy 0) 60 (A 5)), ((r 12), wInt (cy 0) 37 (A 12)), ((r 13), wInt (cy 0) 37 (A 13)), ((r 14), wInt (cy 0) 37 (A 14)), ((r 15), wInt (cy 0) 37 (A 15)), ((r 16), wInt (cy 0) 74 (A 16)), ((r 17), wInt (cy 1) 2 (A 17)), ((r 18), wInt (cy 0) 888 (A 18)), ((r 20), wInt (cy 0) 16 (A 20)), ((r 22), wInt (cy 0) 16 (A 22)), ((r 23), wInt (cy 0) 24 (A 23))]) (ws' := (fun _ : Unit => mW cy h r v A)) (va_runS (As := [.int x0, .int (nI 1), .int (nI 999999)]) (rest := []) CF (k_X12_in l D cy _ x0 (nI 1) (nI 999999) ) (va_cwS 3 hts gX12_drawn_X12_in rfl rfl rfl (by decide +kernel) ⟨Nat.le_of_ble_eq_true rfl, Nat.le_of_ble_eq_true rfl⟩) (pre_S hKN hP hD [] rfl (by decide)) rfl rfl hl.1 rfl (lv_room (Nat.le_of_ble_eq_true rfl)) dX12_drawn_24 ⟨Nat.le_of_ble_eq_true rfl, Nat.le_of_ble_eq_true rfl⟩) hS hA hP hD [] [0, 1, 2, 3, 4, 5, 6, 7, 8, 9, 10, 11, 12, 13, 14] [0, 1, 2, 3, 4, 5, 6, 7, 8, 9, 10, 11, 12, 13, 14] rfl rfl (by decide) (by decide) (fun _ => rfl) (by decide) (fun r8 u7 H locs hw9 hP hD hS => ?_)
      replace hw9 := hw9.symm; subst hw9
      refine ifeqB (tgt := 39) hx hb dX12_drawn_27 (by decide) (fun c27 => ?_) (fun c27 => ?_)
      · refine lv_ldc hx hb hown hc66 dX12_drawn_39 ?_
        exact ret _ A _ _ _ _ dX12_drawn_41 ⟨(by simp [-not_and, -Int32.not_le, -Int32.not_lt, noOne, noDr, mDrwn, c4, c17, e_m, c27]), (fun j h1 h2 h3 h4 => by simp [va_up, h1, h2, h3, h4])⟩ hP hD hS
      · obtain ⟨x, h_x, rfl⟩ := nI_of2 (M := nI 999999) (n := 999999) (by decide) (Int32.not_lt.mpr (Int32.le_trans (by decide) c27.1)) c27.2
        have e_x : (nI x).toNatClampNeg = x := nI_clamp (by omega)
        refine lv_iload_n hx hb dX12_drawn_30 rfl (lv_at hl 3 rfl) ?_
        refine lv_iconst (v := nI 0) hx hb dX12_drawn_31 (by decide) ?_
        refine lv_iconst (v := nI 1) hx hb dX12_drawn_32 (by decide) ?_
        refine call_i (wr := [(h, .inr (11, mO r v)), ((r 0), wInt (cy 0) 8 (A 0)), ((r 1), wInt (cy 0) 8 (A 1)), ((r 2), wInt (cy 0) 320 (A 2)), ((r 5), wInt (cy 0) 60 (A 5)), ((r 12), wInt (cy 0) 37 (A 12)), ((r 13), wInt (cy 0) 37 (A 13)), ((r 14), wInt (cy 0) 37 (A 14)), ((r 15), wInt (cy 0) 37 (A 15)), ((r 16), wInt (cy 0) 74 (A 16)), ((r 17), wInt (cy 1) 2 (A 17)), ((r 18), wInt (cy 0) 888 (A 18)), ((r 20), wInt (cy 0) 16 (A 20)), ((r 22), wInt (cy 0) 16 (A 22)), ((r 23), wInt (cy 0) 24 (A 23))]) (ws' := (fun _ : Unit => mW cy h r v A)) (va_runS (As := [.int w0, .int (nI 0), .int (nI 1)]) (rest := []) CF (k_X12_in l D cy _ w0 (nI 0) (nI 1) ) (va_cwS 3 hts gX12_drawn_X12_in rfl rfl rfl (by decide +kernel) ⟨Nat.le_of_ble_eq_true rfl, Nat.le_of_ble_eq_true rfl⟩) (pre_S hKN hP hD [] rfl (by decide)) rfl rfl hl.1 rfl (lv_room (Nat.le_of_ble_eq_true rfl)) dX12_drawn_33 ⟨Nat.le_of_ble_eq_true rfl, Nat.le_of_ble_eq_true rfl⟩) hS hA hP hD [] [0, 1, 2, 3, 4, 5, 6, 7, 8, 9, 10, 11, 12, 13, 14] [0, 1, 2, 3, 4, 5, 6, 7, 8, 9, 10, 11, 12, 13, 14] rfl rfl (by decide) (by decide) (fun _ => rfl) (by decide) (fun r11 u10 H locs hw12 hP hD hS => ?_)
        replace hw12 := hw12.symm; subst hw12
        refine ifneB (tgt := 42) hx hb dX12_drawn_36 (by decide) (fun c36 => ?_) (fun c36 => ?_)
        · obtain ⟨hn1, hd1⟩ := h1 c4
          refine lv_aload_n hx hb dX12_drawn_42 rfl (lv_at hl 0 rfl) ?_
          refine call_v (wr := []) (ws' := (fun _ : Unit => mW cy h r v (va_up A 14 (A 12)))) (va_runV (As := []) (rest := []) CF (k_X12_begin l D cy _ h r v A ) (cwV 0 hts gX12_drawn_X12_begin rfl rfl rfl (by decide +kernel) ⟨Nat.le_of_ble_eq_true rfl, Nat.le_of_ble_eq_true rfl⟩) (pre_V hKN hP hD [0, 1, 2, 3, 4, 5, 6, 7, 8, 9, 10, 11, 12, 13, 14] rfl (by decide) 0 11 rfl rfl) rfl rfl hl.1 rfl (lv_room (Nat.le_of_ble_eq_true rfl)) dX12_drawn_43 ⟨Nat.le_of_ble_eq_true rfl, Nat.le_of_ble_eq_true rfl⟩) hS hA hP hD [0, 1, 2, 3, 4, 5, 6, 7, 8, 9, 10, 11, 12, 13, 14] [] [0, 1, 2, 3, 4, 5, 6, 7, 8, 9, 10, 11, 12, 13, 14] rfl rfl (by decide) (by decide) (fun _ => rfl) (by decide) (fun u13 H locs hw15 hP hD hS => ?_)
          refine lv_iload_n hx hb dX12_drawn_46 rfl (lv_at hl 2 rfl) ?_
          refine lv_i2l (v := lN x) hx hb dX12_drawn_47 (nI_l (by omega)) ?_
          refine lv_lstore (lv' := [(4, .long (lN x)), (0, .ref h), (1, .int (nI m)), (2, .int (nI x)), (3, .int w0)]) hx hb dX12_drawn_48 hl (by decide) rfl (fun ls hl => ?_)
          refine lv_iconst (v := nI 0) hx hb dX12_drawn_50 (by decide) ?_
          refine lv_istore (lv' := [(6, .int (nI 0)), (4, .long (lN x)), (0, .ref h), (1, .int (nI m)), (2, .int (nI x)), (3, .int w0)]) hx hb dX12_drawn_51 hl (by decide) rfl (fun ls hl => ?_)
          refine lv_iconst (v := nI 0) hx hb dX12_drawn_53 (by decide) ?_
          refine lv_istore (lv' := [(7, .int (nI 0)), (6, .int (nI 0)), (4, .long (lN x)), (0, .ref h), (1, .int (nI m)), (2, .int (nI x)), (3, .int w0)]) hx hb dX12_drawn_54 hl (by decide) rfl (fun ls hl => ?_)
          have lp56 : ∀ f_ : Nat, ∀ (j : Nat) (xj : Nat) (sm : Int32) (f2 : Nat → Int32), (m - j) < f_ → (j ≤ m) → (xj = drX x j) → (Cat f2 n) → (f2 = drS (A 12) n dr x j) → (sm = drM (A 12) n dr x j) → ∀ (H : Heap) (locs : List Loc), va_P D vwCl (mW cy h r v (va_up A 14 f2)) H → va_D A_ (mW cy h r v (va_up A 14 f2)) → va_S A_ s_.heap H locs → ∀ ls : Array Slot, lv_has ls 10 [(0, .ref h), (1, .int (nI m)), (2, .int (nI x)), (3, .int w0), (4, .long (lN xj)), (6, .int sm), (7, .int (nI j))] → W p_ l e_ (rmD 6) s_ m_ args_ below_ meth_ c_ H locs 0 0 Q_ (F0 m_ 56 ls []) := by
            intro f_
            induction f_ with
            | zero => intro j xj sm f2 hm_; exact absurd hm_ (by omega)
            | succ f_ ih56 =>
              intro j xj sm f2 hm_ hj ex hC2 e2 es H locs hP hD hS ls hl
              refine lv_iload hx hb dX12_drawn_56 (lv_at hl 6 rfl) ?_
              refine lv_iload_n hx hb dX12_drawn_58 rfl (lv_at hl 1 rfl) ?_
              refine geN (tgt := 170) hx hb (by omega) (by omega) dX12_drawn_59 (by decide) (fun c59 => ?_) (fun c59 => ?_)
              · refine lv_iload_n hx hb dX12_drawn_170 rfl (lv_at hl 3 rfl) ?_
                refine lv_if_ne (tgt := 184) hx hb dX12_drawn_171 (by decide) (fun c171 => ?_) (fun c171 => ?_)
                · refine lv_iload hx hb dX12_drawn_184 (lv_at hl 5 rfl) ?_
                  exact ret _ (va_up A 14 f2) _ _ _ _ dX12_drawn_186 ⟨(by have hj9 : j = m := (by omega); rw [mDrwn, if_neg (fun h => h c4), if_neg (fun h => h.elim (fun h => h c17) (fun h => h.elim (fun h => h c27) (fun h => h c36))), show cl (nI x) = x from e_x, show cl (nI m) = m from e_m, ← hj9]; first | (rw [if_pos c171, ← e2]; done) | (rw [if_neg c171, ← es]; done)), (fun j h1 h2 h3 h4 => by simp [va_up, h1, h2, h3, h4])⟩ hP hD hS
                · refine lv_aload_n hx hb dX12_drawn_174 rfl (lv_at hl 0 rfl) ?_
                  refine va_get (ci := 11) (v := .ref (r 14)) (C := RX12) (T := TX12) (N := 24) hx hb hts hinX12 hown hK hP 0 rfl rfl 14 (by decide) hf28 (fun _ h9 => h9) rfl dX12_drawn_175 ?_
                  refine call_i (wr := [(h, .inr (11, mO r v)), ((r 0), wInt (cy 0) 8 (A 0)), ((r 1), wInt (cy 0) 8 (A 1)), ((r 2), wInt (cy 0) 320 (A 2)), ((r 5), wInt (cy 0) 60 (A 5)), ((r 12), wInt (cy 0) 37 (A 12)), ((r 13), wInt (cy 0) 37 (A 13)), ((r 15), wInt (cy 0) 37 (A 15)), ((r 16), wInt (cy 0) 74 (A 16)), ((r 17), wInt (cy 1) 2 (A 17)), ((r 18), wInt (cy 0) 888 (A 18)), ((r 20), wInt (cy 0) 16 (A 20)), ((r 22), wInt (cy 0) 16 (A 22)), ((r 23), wInt (cy 0) 24 (A 23))]) (ws' := (fun _ : Unit => mW cy h r v (va_up A 14 f2))) (va_runS (As := [.ref (r 14)]) (rest := []) CF (k_X12_figuresOf l D cy _ (r 14) f2 n (by first | assumption | omega | decide) hC2.1) (va_cwS 1 hts gX12_drawn_X12_figuresOf rfl rfl rfl (by decide +kernel) ⟨Nat.le_of_ble_eq_true rfl, Nat.le_of_ble_eq_true rfl⟩) (pre_S hKN hP hD [7] rfl (by decide)) rfl rfl hl.1 rfl (lv_room (Nat.le_of_ble_eq_true rfl)) dX12_drawn_178 ⟨Nat.le_of_ble_eq_true rfl, Nat.le_of_ble_eq_true rfl⟩) hS hA hP hD [7] [0, 1, 2, 3, 4, 5, 6, 8, 9, 10, 11, 12, 13, 14] [0, 1, 2, 3, 4, 5, 6, 14, 7, 8, 9, 10, 11, 12, 13] rfl rfl (by decide) (by decide) (fun _ => rfl) (by decide) (fun r17 u16 H locs hw18 hP hD hS => ?_)
                  replace hw18 := hw18.symm; subst hw18
                  refine lv_goto (tgt := 186) hx hb dX12_drawn_181 (by decide) ?_
                  exact ret _ (va_up A 14 f2) _ _ _ _ dX12_drawn_186 ⟨(by have hj9 : j = m := (by omega); rw [mDrwn, if_neg (fun h => h c4), if_neg (fun h => h.elim (fun h => h c17) (fun h => h.elim (fun h => h c27) (fun h => h c36))), show cl (nI x) = x from e_x, show cl (nI m) = m from e_m, ← hj9]; first | (rw [if_pos c171, ← e2]; done) | (rw [if_neg c171, ← es]; done)), (fun j h1 h2 h3 h4 => by simp [va_up, h1, h2, h3, h4])⟩ hP hD hS
              · refine lv_lload hx hb dX12_drawn_62 (lv_at hl 4 rfl) ?_
                refine lv_ldc2 hx hb hown hcl214 dX12_drawn_64 (top_l (show (16807 : Int64) = lN 16807 from rfl) ?_)
                refine lv_lmul hx hb dX12_drawn_67 ?_
                refine top_l (lN_mul _ _) ?_
                refine lv_ldc2 hx hb hown hcl216 dX12_drawn_68 (top_l (show (2147483647 : Int64) = lN 2147483647 from rfl) ?_)
                refine lv_lrem hx hb dX12_drawn_71 (by decide) ?_
                refine top_l (y := lN (drX x (j + 1))) (by rw [pk_lRem (by have q := drX_lt (x := x) (by omega) j; rw [← ex] at q; omega) (by decide) (by decide), ex]; rfl) ?_
                refine lv_lstore (lv' := [(4, .long (lN (drX x (j + 1)))), (0, .ref h), (1, .int (nI m)), (2, .int (nI x)), (3, .int w0), (6, .int sm), (7, .int (nI j))]) hx hb dX12_drawn_72 hl (by decide) rfl (fun ls hl => ?_)
                have hx1 := drX_lt (x := x) (by omega) (j + 1)
                have hc1 := Nat.mod_lt (drX x (j + 1)) hn1
                have hd2 := Nat.mod_lt (drX x (j + 1)) hd1
                refine lv_lload hx hb dX12_drawn_74 (lv_at hl 0 rfl) ?_
                refine lv_aload_n hx hb dX12_drawn_76 rfl (lv_at hl 1 rfl) ?_
                refine va_get (ci := 11) (v := .ref (r 12)) (C := RX12) (T := TX12) (N := 24) hx hb hts hinX12 hown hK hP 0 rfl rfl 12 (by decide) hf22 (fun _ h9 => h9) rfl dX12_drawn_77 ?_
                refine lv_iconst (v := nI 3) hx hb dX12_drawn_80 (by decide) ?_
                refine ldN (f := (A 12)) hx hb hK hP 5 rfl (j := 3) (by omega) (by decide) dX12_drawn_81 ?_
                refine top_i hC.1 ?_
                refine lv_i2l (v := lN n) hx hb dX12_drawn_82 (nI_l (by omega)) ?_
                refine lv_lrem hx hb dX12_drawn_83 (fun q => absurd ((pk_lEQ (by omega) (by decide)).mp (q.trans (show (0 : Int64) = lN 0 from rfl))) (by omega)) ?_
                refine top_l (y := lN (drX x (j + 1) % n)) (pk_lRem (by omega) (by omega) (by omega)) ?_
                refine lv_l2i (v := nI (drX x (j + 1) % n)) hx hb dX12_drawn_84 (lN_i _) ?_
                refine lv_istore (lv' := [(8, .int (nI (drX x (j + 1) % n))), (4, .long (lN (drX x (j + 1)))), (0, .ref h), (1, .int (nI m)), (2, .int (nI x)), (3, .int w0), (6, .int sm), (7, .int (nI j))]) hx hb dX12_drawn_85 hl (by decide) rfl (fun ls hl => ?_)
                refine lv_lload hx hb dX12_drawn_87 (lv_at hl 1 rfl) ?_
                refine lv_aload_n hx hb dX12_drawn_89 rfl (lv_at hl 2 rfl) ?_
                refine va_get (ci := 11) (v := .ref (r 12)) (C := RX12) (T := TX12) (N := 24) hx hb hts hinX12 hown hK hP 0 rfl rfl 12 (by decide) hf22 (fun _ h9 => h9) rfl dX12_drawn_90 ?_
                refine lv_iconst (v := nI 1) hx hb dX12_drawn_93 (by decide) ?_
                refine ldN (f := (A 12)) hx hb hK hP 5 rfl (j := 1) (by omega) (by decide) dX12_drawn_94 ?_
                refine top_i hd ?_
                refine lv_i2l (v := lN dr) hx hb dX12_drawn_95 (nI_l (by omega)) ?_
                refine lv_lrem hx hb dX12_drawn_96 (fun q => absurd ((pk_lEQ (by omega) (by decide)).mp (q.trans (show (0 : Int64) = lN 0 from rfl))) (by omega)) ?_
                refine top_l (y := lN (drX x (j + 1) % dr)) (pk_lRem (by omega) (by omega) (by omega)) ?_
                refine lv_l2i (v := nI (drX x (j + 1) % dr)) hx hb dX12_drawn_97 (lN_i _) ?_
                refine lv_istore (lv' := [(9, .int (nI (drX x (j + 1) % dr))), (8, .int (nI (drX x (j + 1) % n))), (4, .long (lN (drX x (j + 1)))), (0, .ref h), (1, .int (nI m)), (2, .int (nI x)), (3, .int w0), (6, .int sm), (7, .int (nI j))]) hx hb dX12_drawn_98 hl (by decide) rfl (fun ls hl => ?_)
                refine lv_aload_n hx hb dX12_drawn_100 rfl (lv_at hl 3 rfl) ?_
                refine va_get (ci := 11) (v := .ref (r 14)) (C := RX12) (T := TX12) (N := 24) hx hb hts hinX12 hown hK hP 0 rfl rfl 14 (by decide) hf28 (fun _ h9 => h9) rfl dX12_drawn_101 ?_
                refine lv_bipush (v := nI 21) hx hb dX12_drawn_104 (by decide) ?_
                refine lv_iload hx hb dX12_drawn_106 (lv_at hl 1 rfl) ?_
                refine adN (k := 21 + drX x (j + 1) % n) hx hb rfl dX12_drawn_108 ?_
                refine ldN (f := f2) hx hb hK hP 7 rfl (j := 21 + drX x (j + 1) % n) (by omega) (by decide) dX12_drawn_109 ?_
                refine lv_iload hx hb dX12_drawn_110 (lv_at hl 0 rfl) ?_
                refine lv_icmp_eq (tgt := 133) hx hb dX12_drawn_112 (by decide) (fun c112 => ?_) (fun c112 => ?_)
                · refine lv_aload_n hx hb dX12_drawn_133 rfl (lv_at hl 3 rfl) ?_
                  refine va_get (ci := 11) (v := .ref (r 14)) (C := RX12) (T := TX12) (N := 24) hx hb hts hinX12 hown hK hP 0 rfl rfl 14 (by decide) hf28 (fun _ h9 => h9) rfl dX12_drawn_134 ?_
                  refine lv_iload hx hb dX12_drawn_137 (lv_at hl 1 rfl) ?_
                  refine lv_iload hx hb dX12_drawn_139 (lv_at hl 0 rfl) ?_
                  refine call_v (wr := [(h, .inr (11, mO r v)), ((r 0), wInt (cy 0) 8 (A 0)), ((r 1), wInt (cy 0) 8 (A 1)), ((r 2), wInt (cy 0) 320 (A 2)), ((r 5), wInt (cy 0) 60 (A 5)), ((r 12), wInt (cy 0) 37 (A 12)), ((r 13), wInt (cy 0) 37 (A 13)), ((r 15), wInt (cy 0) 37 (A 15)), ((r 16), wInt (cy 0) 74 (A 16)), ((r 17), wInt (cy 1) 2 (A 17)), ((r 18), wInt (cy 0) 888 (A 18)), ((r 20), wInt (cy 0) 16 (A 20)), ((r 22), wInt (cy 0) 16 (A 22)), ((r 23), wInt (cy 0) 24 (A 23))]) (ws' := (fun u19 : (Nat → Int32) => mW cy h r v (va_up A 14 u19))) (va_runS (As := [.ref (r 14), .int (nI (drX x (j + 1) % n)), .int (nI (drX x (j + 1) % dr))]) (rest := []) CF (k_X12_goesBehind l D cy _ (r 14) f2 (drX x (j + 1) % n) (nI (drX x (j + 1) % dr)) n (by first | assumption | omega | decide) hC2.1 (by first | assumption | omega | decide)) (va_cwS 3 hts gX12_drawn_X12_goesBehind rfl rfl rfl (by decide +kernel) ⟨Nat.le_of_ble_eq_true rfl, Nat.le_of_ble_eq_true rfl⟩) (pre_S hKN hP hD [7] rfl (by decide)) rfl rfl hl.1 rfl (lv_room (Nat.le_of_ble_eq_true rfl)) dX12_drawn_141 ⟨Nat.le_of_ble_eq_true rfl, Nat.le_of_ble_eq_true rfl⟩) hS hA hP hD [7] [0, 1, 2, 3, 4, 5, 6, 8, 9, 10, 11, 12, 13, 14] [0, 1, 2, 3, 4, 5, 6, 14, 7, 8, 9, 10, 11, 12, 13] rfl rfl (by decide) (by decide) (fun _ => rfl) (by decide) (fun u19 H locs hw21 hP hD hS => ?_)
                  replace hw21 := hw21.symm; subst hw21
                  have hP : va_P D vwCl (mW cy h r v (va_up A 14 (behindS f2 n (drX x (j + 1) % n) (nI (drX x (j + 1) % dr))))) H := hP
                  have hD : va_D A_ (mW cy h r v (va_up A 14 (behindS f2 n (drX x (j + 1) % n) (nI (drX x (j + 1) % dr))))) := hD
                  have eP : behindS f2 n (drX x (j + 1) % n) (nI (drX x (j + 1) % dr)) = drPut f2 n (drX x (j + 1) % n) (drX x (j + 1) % dr) := (by rw [drPut, if_pos (by first | exact Or.inl c112 | exact Or.inr c130)])
                  have hC2b : Cat (behindS f2 n (drX x (j + 1) % n) (nI (drX x (j + 1) % dr))) n := (by rw [eP]; exact hC2.drPut hc1 (by omega))
                  refine lv_aload_n hx hb dX12_drawn_144 rfl (lv_at hl 3 rfl) ?_
                  refine lv_iconst (v := nI 1) hx hb dX12_drawn_145 (by decide) ?_
                  refine call_v (wr := []) (ws' := (fun u22 : (Nat → Int32) => mW cy h r v (va_up A 14 u22))) (va_runV (As := [.int (nI 1)]) (rest := []) CF (k_X12_goOn l D cy _ h r v (va_up A 14 (behindS f2 n (drX x (j + 1) % n) (nI (drX x (j + 1) % dr)))) 1 n (by first | assumption | omega | decide) (hC2b)) (cwV 1 hts gX12_drawn_X12_goOn rfl rfl rfl (by decide +kernel) ⟨Nat.le_of_ble_eq_true rfl, Nat.le_of_ble_eq_true rfl⟩) (pre_V hKN hP hD [0, 1, 2, 3, 4, 5, 6, 7, 8, 9, 10, 11, 12, 13, 14] rfl (by decide) 0 11 rfl rfl) rfl rfl hl.1 rfl (lv_room (Nat.le_of_ble_eq_true rfl)) dX12_drawn_146 ⟨Nat.le_of_ble_eq_true rfl, Nat.le_of_ble_eq_true rfl⟩) hS hA hP hD [0, 1, 2, 3, 4, 5, 6, 7, 8, 9, 10, 11, 12, 13, 14] [] [0, 1, 2, 3, 4, 5, 6, 7, 8, 9, 10, 11, 12, 13, 14] rfl rfl (by decide) (by decide) (fun _ => rfl) (by decide) (fun u22 H locs hw24 hP hD hS => ?_)
                  replace hw24 := hw24.symm; subst hw24
                  have hP : va_P D vwCl (mW cy h r v (va_up A 14 (nightsS ((behindS f2 n (drX x (j + 1) % n) (nI (drX x (j + 1) % dr)))) n 1))) H := hP
                  have hD : va_D A_ (mW cy h r v (va_up A 14 (nightsS ((behindS f2 n (drX x (j + 1) % n) (nI (drX x (j + 1) % dr)))) n 1))) := hD
                  refine lv_iload hx hb dX12_drawn_149 (lv_at hl 7 rfl) ?_
                  refine lv_aload_n hx hb dX12_drawn_151 rfl (lv_at hl 3 rfl) ?_
                  refine va_get (ci := 11) (v := .ref (r 14)) (C := RX12) (T := TX12) (N := 24) hx hb hts hinX12 hown hK hP 0 rfl rfl 14 (by decide) hf28 (fun _ h9 => h9) rfl dX12_drawn_152 ?_
                  refine call_i (wr := [(h, .inr (11, mO r v)), ((r 0), wInt (cy 0) 8 (A 0)), ((r 1), wInt (cy 0) 8 (A 1)), ((r 2), wInt (cy 0) 320 (A 2)), ((r 5), wInt (cy 0) 60 (A 5)), ((r 12), wInt (cy 0) 37 (A 12)), ((r 13), wInt (cy 0) 37 (A 13)), ((r 15), wInt (cy 0) 37 (A 15)), ((r 16), wInt (cy 0) 74 (A 16)), ((r 17), wInt (cy 1) 2 (A 17)), ((r 18), wInt (cy 0) 888 (A 18)), ((r 20), wInt (cy 0) 16 (A 20)), ((r 22), wInt (cy 0) 16 (A 22)), ((r 23), wInt (cy 0) 24 (A 23))]) (ws' := (fun _ : Unit => mW cy h r v (va_up A 14 (nightsS ((behindS f2 n (drX x (j + 1) % n) (nI (drX x (j + 1) % dr)))) n 1)))) (va_runS (As := [.ref (r 14)]) (rest := [.int sm]) CF (k_X12_matesIn l D cy _ (r 14) (nightsS ((behindS f2 n (drX x (j + 1) % n) (nI (drX x (j + 1) % dr)))) n 1) n (by first | assumption | omega | decide) (hC2b.night _).1) (va_cwS 1 hts gX12_drawn_X12_matesIn rfl rfl rfl (by decide +kernel) ⟨Nat.le_of_ble_eq_true rfl, Nat.le_of_ble_eq_true rfl⟩) (pre_S hKN hP hD [7] rfl (by decide)) rfl rfl hl.1 rfl (lv_room (Nat.le_of_ble_eq_true rfl)) dX12_drawn_155 ⟨Nat.le_of_ble_eq_true rfl, Nat.le_of_ble_eq_true rfl⟩) hS hA hP hD [7] [0, 1, 2, 3, 4, 5, 6, 8, 9, 10, 11, 12, 13, 14] [0, 1, 2, 3, 4, 5, 6, 14, 7, 8, 9, 10, 11, 12, 13] rfl rfl (by decide) (by decide) (fun _ => rfl) (by decide) (fun r26 u25 H locs hw27 hP hD hS => ?_)
                  replace hw27 := hw27.symm; subst hw27
                  refine call_i (wr := [(h, .inr (11, mO r v)), ((r 0), wInt (cy 0) 8 (A 0)), ((r 1), wInt (cy 0) 8 (A 1)), ((r 2), wInt (cy 0) 320 (A 2)), ((r 5), wInt (cy 0) 60 (A 5)), ((r 12), wInt (cy 0) 37 (A 12)), ((r 13), wInt (cy 0) 37 (A 13)), ((r 14), wInt (cy 0) 37 (nightsS ((behindS f2 n (drX x (j + 1) % n) (nI (drX x (j + 1) % dr)))) n 1)), ((r 15), wInt (cy 0) 37 (A 15)), ((r 16), wInt (cy 0) 74 (A 16)), ((r 17), wInt (cy 1) 2 (A 17)), ((r 18), wInt (cy 0) 888 (A 18)), ((r 20), wInt (cy 0) 16 (A 20)), ((r 22), wInt (cy 0) 16 (A 22)), ((r 23), wInt (cy 0) 24 (A 23))]) (ws' := (fun _ : Unit => mW cy h r v (va_up A 14 (nightsS ((behindS f2 n (drX x (j + 1) % n) (nI (drX x (j + 1) % dr)))) n 1)))) (va_runS (As := [.int (matesN (nightsS ((behindS f2 n (drX x (j + 1) % n) (nI (drX x (j + 1) % dr)))) n 1) n n)]) (rest := [.int sm]) CF (k_X12_bits l D cy _ (matesN (nightsS ((behindS f2 n (drX x (j + 1) % n) (nI (drX x (j + 1) % dr)))) n 1) n n) ) (va_cwS 1 hts gX12_drawn_X12_bits rfl rfl rfl (by decide +kernel) ⟨Nat.le_of_ble_eq_true rfl, Nat.le_of_ble_eq_true rfl⟩) (pre_S hKN hP hD [] rfl (by decide)) rfl rfl hl.1 rfl (lv_room (Nat.le_of_ble_eq_true rfl)) dX12_drawn_158 ⟨Nat.le_of_ble_eq_true rfl, Nat.le_of_ble_eq_true rfl⟩) hS hA hP hD [] [0, 1, 2, 3, 4, 5, 6, 7, 8, 9, 10, 11, 12, 13, 14] [0, 1, 2, 3, 4, 5, 6, 7, 8, 9, 10, 11, 12, 13, 14] rfl rfl (by decide) (by decide) (fun _ => rfl) (by decide) (fun r29 u28 H locs hw30 hP hD hS => ?_)
                  replace hw30 := hw30.symm; subst hw30
                  refine lv_iadd hx hb dX12_drawn_161 ?_
                  refine lv_istore (lv' := [(6, .int (sm + bitsN (matesN (nightsS ((behindS f2 n (drX x (j + 1) % n) (nI (drX x (j + 1) % dr)))) n 1) n n) 8)), (9, .int (nI (drX x (j + 1) % dr))), (8, .int (nI (drX x (j + 1) % n))), (4, .long (lN (drX x (j + 1)))), (0, .ref h), (1, .int (nI m)), (2, .int (nI x)), (3, .int w0), (7, .int (nI j))]) hx hb dX12_drawn_162 hl (by decide) rfl (fun ls hl => ?_)
                  refine lv_iinc (v := nI (j + 1)) (lv' := [(7, .int (nI (j + 1))), (6, .int (sm + bitsN (matesN (nightsS ((behindS f2 n (drX x (j + 1) % n) (nI (drX x (j + 1) % dr)))) n 1) n n) 8)), (9, .int (nI (drX x (j + 1) % dr))), (8, .int (nI (drX x (j + 1) % n))), (4, .long (lN (drX x (j + 1)))), (0, .ref h), (1, .int (nI m)), (2, .int (nI x)), (3, .int w0)]) hx hb dX12_drawn_164 hl (k := 8) rfl (nI_1 _) (by decide) rfl (fun ls hl => ?_)
                  refine lv_goto (tgt := 56) hx hb dX12_drawn_167 (by decide) ?_
                  exact ih56 (j + 1) (drX x (j + 1)) (sm + bitsN (matesN (nightsS ((behindS f2 n (drX x (j + 1) % n) (nI (drX x (j + 1) % dr)))) n 1) n n) 8) (nightsS ((behindS f2 n (drX x (j + 1) % n) (nI (drX x (j + 1) % dr)))) n 1) (by omega) (by omega) rfl (hC2b.night _) (by rw [drS, ← e2, ← eP]; rfl) (by rw [drM, ← es, drS, ← e2, ← eP]; rfl) _ _ hP hD hS ls (lv_sub hl [5, 6, 7, 8, 4, 1, 0] rfl)
                · refine lv_aload_n hx hb dX12_drawn_115 rfl (lv_at hl 3 rfl) ?_
                  refine va_get (ci := 11) (v := .ref (r 14)) (C := RX12) (T := TX12) (N := 24) hx hb hts hinX12 hown hK hP 0 rfl rfl 14 (by decide) hf28 (fun _ h9 => h9) rfl dX12_drawn_116 ?_
                  refine lv_iload hx hb dX12_drawn_119 (lv_at hl 0 rfl) ?_
                  refine call_i (wr := [(h, .inr (11, mO r v)), ((r 0), wInt (cy 0) 8 (A 0)), ((r 1), wInt (cy 0) 8 (A 1)), ((r 2), wInt (cy 0) 320 (A 2)), ((r 5), wInt (cy 0) 60 (A 5)), ((r 12), wInt (cy 0) 37 (A 12)), ((r 13), wInt (cy 0) 37 (A 13)), ((r 15), wInt (cy 0) 37 (A 15)), ((r 16), wInt (cy 0) 74 (A 16)), ((r 17), wInt (cy 1) 2 (A 17)), ((r 18), wInt (cy 0) 888 (A 18)), ((r 20), wInt (cy 0) 16 (A 20)), ((r 22), wInt (cy 0) 16 (A 22)), ((r 23), wInt (cy 0) 24 (A 23))]) (ws' := (fun _ : Unit => mW cy h r v (va_up A 14 f2))) (va_runS (As := [.ref (r 14), .int (nI (drX x (j + 1) % dr))]) (rest := []) CF (k_X12_inDrawer l D cy _ (r 14) f2 (nI (drX x (j + 1) % dr)) n (by first | assumption | omega | decide) hC2.1) (va_cwS 2 hts gX12_drawn_X12_inDrawer rfl rfl rfl (by decide +kernel) ⟨Nat.le_of_ble_eq_true rfl, Nat.le_of_ble_eq_true rfl⟩) (pre_S hKN hP hD [7] rfl (by decide)) rfl rfl hl.1 rfl (lv_room (Nat.le_of_ble_eq_true rfl)) dX12_drawn_121 ⟨Nat.le_of_ble_eq_true rfl, Nat.le_of_ble_eq_true rfl⟩) hS hA hP hD [7] [0, 1, 2, 3, 4, 5, 6, 8, 9, 10, 11, 12, 13, 14] [0, 1, 2, 3, 4, 5, 6, 14, 7, 8, 9, 10, 11, 12, 13] rfl rfl (by decide) (by decide) (fun _ => rfl) (by decide) (fun r32 u31 H locs hw33 hP hD hS => ?_)
                  replace hw33 := hw33.symm; subst hw33
                  refine lv_aload_n hx hb dX12_drawn_124 rfl (lv_at hl 3 rfl) ?_
                  refine va_get (ci := 11) (v := .ref (r 14)) (C := RX12) (T := TX12) (N := 24) hx hb hts hinX12 hown hK hP 0 rfl rfl 14 (by decide) hf28 (fun _ h9 => h9) rfl dX12_drawn_125 ?_
                  refine lv_iconst (v := nI 2) hx hb dX12_drawn_128 (by decide) ?_
                  refine ldN (f := f2) hx hb hK hP 7 rfl (j := 2) (by omega) (by decide) dX12_drawn_129 ?_
                  refine lv_icmp_ge (tgt := 144) hx hb dX12_drawn_130 (by decide) (fun c130 => ?_) (fun c130 => ?_)
                  · have eP : f2 = drPut f2 n (drX x (j + 1) % n) (drX x (j + 1) % dr) := (by rw [drPut, if_neg (fun h => h.elim c112 (fun h => h c130))])
                    have hC2b : Cat (f2) n := (by rw [eP]; exact hC2.drPut hc1 (by omega))
                    refine lv_aload_n hx hb dX12_drawn_144 rfl (lv_at hl 3 rfl) ?_
                    refine lv_iconst (v := nI 1) hx hb dX12_drawn_145 (by decide) ?_
                    refine call_v (wr := []) (ws' := (fun u34 : (Nat → Int32) => mW cy h r v (va_up A 14 u34))) (va_runV (As := [.int (nI 1)]) (rest := []) CF (k_X12_goOn l D cy _ h r v (va_up A 14 f2) 1 n (by first | assumption | omega | decide) (hC2b)) (cwV 1 hts gX12_drawn_X12_goOn rfl rfl rfl (by decide +kernel) ⟨Nat.le_of_ble_eq_true rfl, Nat.le_of_ble_eq_true rfl⟩) (pre_V hKN hP hD [0, 1, 2, 3, 4, 5, 6, 7, 8, 9, 10, 11, 12, 13, 14] rfl (by decide) 0 11 rfl rfl) rfl rfl hl.1 rfl (lv_room (Nat.le_of_ble_eq_true rfl)) dX12_drawn_146 ⟨Nat.le_of_ble_eq_true rfl, Nat.le_of_ble_eq_true rfl⟩) hS hA hP hD [0, 1, 2, 3, 4, 5, 6, 7, 8, 9, 10, 11, 12, 13, 14] [] [0, 1, 2, 3, 4, 5, 6, 7, 8, 9, 10, 11, 12, 13, 14] rfl rfl (by decide) (by decide) (fun _ => rfl) (by decide) (fun u34 H locs hw36 hP hD hS => ?_)
                    replace hw36 := hw36.symm; subst hw36
                    have hP : va_P D vwCl (mW cy h r v (va_up A 14 (nightsS (f2) n 1))) H := hP
                    have hD : va_D A_ (mW cy h r v (va_up A 14 (nightsS (f2) n 1))) := hD
                    refine lv_iload hx hb dX12_drawn_149 (lv_at hl 7 rfl) ?_
                    refine lv_aload_n hx hb dX12_drawn_151 rfl (lv_at hl 3 rfl) ?_
                    refine va_get (ci := 11) (v := .ref (r 14)) (C := RX12) (T := TX12) (N := 24) hx hb hts hinX12 hown hK hP 0 rfl rfl 14 (by decide) hf28 (fun _ h9 => h9) rfl dX12_drawn_152 ?_
                    refine call_i (wr := [(h, .inr (11, mO r v)), ((r 0), wInt (cy 0) 8 (A 0)), ((r 1), wInt (cy 0) 8 (A 1)), ((r 2), wInt (cy 0) 320 (A 2)), ((r 5), wInt (cy 0) 60 (A 5)), ((r 12), wInt (cy 0) 37 (A 12)), ((r 13), wInt (cy 0) 37 (A 13)), ((r 15), wInt (cy 0) 37 (A 15)), ((r 16), wInt (cy 0) 74 (A 16)), ((r 17), wInt (cy 1) 2 (A 17)), ((r 18), wInt (cy 0) 888 (A 18)), ((r 20), wInt (cy 0) 16 (A 20)), ((r 22), wInt (cy 0) 16 (A 22)), ((r 23), wInt (cy 0) 24 (A 23))]) (ws' := (fun _ : Unit => mW cy h r v (va_up A 14 (nightsS (f2) n 1)))) (va_runS (As := [.ref (r 14)]) (rest := [.int sm]) CF (k_X12_matesIn l D cy _ (r 14) (nightsS (f2) n 1) n (by first | assumption | omega | decide) (hC2b.night _).1) (va_cwS 1 hts gX12_drawn_X12_matesIn rfl rfl rfl (by decide +kernel) ⟨Nat.le_of_ble_eq_true rfl, Nat.le_of_ble_eq_true rfl⟩) (pre_S hKN hP hD [7] rfl (by decide)) rfl rfl hl.1 rfl (lv_room (Nat.le_of_ble_eq_true rfl)) dX12_drawn_155 ⟨Nat.le_of_ble_eq_true rfl, Nat.le_of_ble_eq_true rfl⟩) hS hA hP hD [7] [0, 1, 2, 3, 4, 5, 6, 8, 9, 10, 11, 12, 13, 14] [0, 1, 2, 3, 4, 5, 6, 14, 7, 8, 9, 10, 11, 12, 13] rfl rfl (by decide) (by decide) (fun _ => rfl) (by decide) (fun r38 u37 H locs hw39 hP hD hS => ?_)
                    replace hw39 := hw39.symm; subst hw39
                    refine call_i (wr := [(h, .inr (11, mO r v)), ((r 0), wInt (cy 0) 8 (A 0)), ((r 1), wInt (cy 0) 8 (A 1)), ((r 2), wInt (cy 0) 320 (A 2)), ((r 5), wInt (cy 0) 60 (A 5)), ((r 12), wInt (cy 0) 37 (A 12)), ((r 13), wInt (cy 0) 37 (A 13)), ((r 14), wInt (cy 0) 37 (nightsS (f2) n 1)), ((r 15), wInt (cy 0) 37 (A 15)), ((r 16), wInt (cy 0) 74 (A 16)), ((r 17), wInt (cy 1) 2 (A 17)), ((r 18), wInt (cy 0) 888 (A 18)), ((r 20), wInt (cy 0) 16 (A 20)), ((r 22), wInt (cy 0) 16 (A 22)), ((r 23), wInt (cy 0) 24 (A 23))]) (ws' := (fun _ : Unit => mW cy h r v (va_up A 14 (nightsS (f2) n 1)))) (va_runS (As := [.int (matesN (nightsS (f2) n 1) n n)]) (rest := [.int sm]) CF (k_X12_bits l D cy _ (matesN (nightsS (f2) n 1) n n) ) (va_cwS 1 hts gX12_drawn_X12_bits rfl rfl rfl (by decide +kernel) ⟨Nat.le_of_ble_eq_true rfl, Nat.le_of_ble_eq_true rfl⟩) (pre_S hKN hP hD [] rfl (by decide)) rfl rfl hl.1 rfl (lv_room (Nat.le_of_ble_eq_true rfl)) dX12_drawn_158 ⟨Nat.le_of_ble_eq_true rfl, Nat.le_of_ble_eq_true rfl⟩) hS hA hP hD [] [0, 1, 2, 3, 4, 5, 6, 7, 8, 9, 10, 11, 12, 13, 14] [0, 1, 2, 3, 4, 5, 6, 7, 8, 9, 10, 11, 12, 13, 14] rfl rfl (by decide) (by decide) (fun _ => rfl) (by decide) (fun r41 u40 H locs hw42 hP hD hS => ?_)
                    replace hw42 := hw42.symm; subst hw42
                    refine lv_iadd hx hb dX12_drawn_161 ?_
                    refine lv_istore (lv' := [(6, .int (sm + bitsN (matesN (nightsS (f2) n 1) n n) 8)), (9, .int (nI (drX x (j + 1) % dr))), (8, .int (nI (drX x (j + 1) % n))), (4, .long (lN (drX x (j + 1)))), (0, .ref h), (1, .int (nI m)), (2, .int (nI x)), (3, .int w0), (7, .int (nI j))]) hx hb dX12_drawn_162 hl (by decide) rfl (fun ls hl => ?_)
                    refine lv_iinc (v := nI (j + 1)) (lv' := [(7, .int (nI (j + 1))), (6, .int (sm + bitsN (matesN (nightsS (f2) n 1) n n) 8)), (9, .int (nI (drX x (j + 1) % dr))), (8, .int (nI (drX x (j + 1) % n))), (4, .long (lN (drX x (j + 1)))), (0, .ref h), (1, .int (nI m)), (2, .int (nI x)), (3, .int w0)]) hx hb dX12_drawn_164 hl (k := 8) rfl (nI_1 _) (by decide) rfl (fun ls hl => ?_)
                    refine lv_goto (tgt := 56) hx hb dX12_drawn_167 (by decide) ?_
                    exact ih56 (j + 1) (drX x (j + 1)) (sm + bitsN (matesN (nightsS (f2) n 1) n n) 8) (nightsS (f2) n 1) (by omega) (by omega) rfl (hC2b.night _) (by rw [drS, ← e2, ← eP]; rfl) (by rw [drM, ← es, drS, ← e2, ← eP]; rfl) _ _ hP hD hS ls (lv_sub hl [5, 6, 7, 8, 4, 1, 0] rfl)
                  · refine lv_aload_n hx hb dX12_drawn_133 rfl (lv_at hl 3 rfl) ?_
                    refine va_get (ci := 11) (v := .ref (r 14)) (C := RX12) (T := TX12) (N := 24) hx hb hts hinX12 hown hK hP 0 rfl rfl 14 (by decide) hf28 (fun _ h9 => h9) rfl dX12_drawn_134 ?_
                    refine lv_iload hx hb dX12_drawn_137 (lv_at hl 1 rfl) ?_
                    refine lv_iload hx hb dX12_drawn_139 (lv_at hl 0 rfl) ?_
                    refine call_v (wr := [(h, .inr (11, mO r v)), ((r 0), wInt (cy 0) 8 (A 0)), ((r 1), wInt (cy 0) 8 (A 1)), ((r 2), wInt (cy 0) 320 (A 2)), ((r 5), wInt (cy 0) 60 (A 5)), ((r 12), wInt (cy 0) 37 (A 12)), ((r 13), wInt (cy 0) 37 (A 13)), ((r 15), wInt (cy 0) 37 (A 15)), ((r 16), wInt (cy 0) 74 (A 16)), ((r 17), wInt (cy 1) 2 (A 17)), ((r 18), wInt (cy 0) 888 (A 18)), ((r 20), wInt (cy 0) 16 (A 20)), ((r 22), wInt (cy 0) 16 (A 22)), ((r 23), wInt (cy 0) 24 (A 23))]) (ws' := (fun u43 : (Nat → Int32) => mW cy h r v (va_up A 14 u43))) (va_runS (As := [.ref (r 14), .int (nI (drX x (j + 1) % n)), .int (nI (drX x (j + 1) % dr))]) (rest := []) CF (k_X12_goesBehind l D cy _ (r 14) f2 (drX x (j + 1) % n) (nI (drX x (j + 1) % dr)) n (by first | assumption | omega | decide) hC2.1 (by first | assumption | omega | decide)) (va_cwS 3 hts gX12_drawn_X12_goesBehind rfl rfl rfl (by decide +kernel) ⟨Nat.le_of_ble_eq_true rfl, Nat.le_of_ble_eq_true rfl⟩) (pre_S hKN hP hD [7] rfl (by decide)) rfl rfl hl.1 rfl (lv_room (Nat.le_of_ble_eq_true rfl)) dX12_drawn_141 ⟨Nat.le_of_ble_eq_true rfl, Nat.le_of_ble_eq_true rfl⟩) hS hA hP hD [7] [0, 1, 2, 3, 4, 5, 6, 8, 9, 10, 11, 12, 13, 14] [0, 1, 2, 3, 4, 5, 6, 14, 7, 8, 9, 10, 11, 12, 13] rfl rfl (by decide) (by decide) (fun _ => rfl) (by decide) (fun u43 H locs hw45 hP hD hS => ?_)
                    replace hw45 := hw45.symm; subst hw45
                    have hP : va_P D vwCl (mW cy h r v (va_up A 14 (behindS f2 n (drX x (j + 1) % n) (nI (drX x (j + 1) % dr))))) H := hP
                    have hD : va_D A_ (mW cy h r v (va_up A 14 (behindS f2 n (drX x (j + 1) % n) (nI (drX x (j + 1) % dr))))) := hD
                    have eP : behindS f2 n (drX x (j + 1) % n) (nI (drX x (j + 1) % dr)) = drPut f2 n (drX x (j + 1) % n) (drX x (j + 1) % dr) := (by rw [drPut, if_pos (by first | exact Or.inl c112 | exact Or.inr c130)])
                    have hC2b : Cat (behindS f2 n (drX x (j + 1) % n) (nI (drX x (j + 1) % dr))) n := (by rw [eP]; exact hC2.drPut hc1 (by omega))
                    refine lv_aload_n hx hb dX12_drawn_144 rfl (lv_at hl 3 rfl) ?_
                    refine lv_iconst (v := nI 1) hx hb dX12_drawn_145 (by decide) ?_
                    refine call_v (wr := []) (ws' := (fun u46 : (Nat → Int32) => mW cy h r v (va_up A 14 u46))) (va_runV (As := [.int (nI 1)]) (rest := []) CF (k_X12_goOn l D cy _ h r v (va_up A 14 (behindS f2 n (drX x (j + 1) % n) (nI (drX x (j + 1) % dr)))) 1 n (by first | assumption | omega | decide) (hC2b)) (cwV 1 hts gX12_drawn_X12_goOn rfl rfl rfl (by decide +kernel) ⟨Nat.le_of_ble_eq_true rfl, Nat.le_of_ble_eq_true rfl⟩) (pre_V hKN hP hD [0, 1, 2, 3, 4, 5, 6, 7, 8, 9, 10, 11, 12, 13, 14] rfl (by decide) 0 11 rfl rfl) rfl rfl hl.1 rfl (lv_room (Nat.le_of_ble_eq_true rfl)) dX12_drawn_146 ⟨Nat.le_of_ble_eq_true rfl, Nat.le_of_ble_eq_true rfl⟩) hS hA hP hD [0, 1, 2, 3, 4, 5, 6, 7, 8, 9, 10, 11, 12, 13, 14] [] [0, 1, 2, 3, 4, 5, 6, 7, 8, 9, 10, 11, 12, 13, 14] rfl rfl (by decide) (by decide) (fun _ => rfl) (by decide) (fun u46 H locs hw48 hP hD hS => ?_)
                    replace hw48 := hw48.symm; subst hw48
                    have hP : va_P D vwCl (mW cy h r v (va_up A 14 (nightsS ((behindS f2 n (drX x (j + 1) % n) (nI (drX x (j + 1) % dr)))) n 1))) H := hP
                    have hD : va_D A_ (mW cy h r v (va_up A 14 (nightsS ((behindS f2 n (drX x (j + 1) % n) (nI (drX x (j + 1) % dr)))) n 1))) := hD
                    refine lv_iload hx hb dX12_drawn_149 (lv_at hl 7 rfl) ?_
                    refine lv_aload_n hx hb dX12_drawn_151 rfl (lv_at hl 3 rfl) ?_
                    refine va_get (ci := 11) (v := .ref (r 14)) (C := RX12) (T := TX12) (N := 24) hx hb hts hinX12 hown hK hP 0 rfl rfl 14 (by decide) hf28 (fun _ h9 => h9) rfl dX12_drawn_152 ?_
                    refine call_i (wr := [(h, .inr (11, mO r v)), ((r 0), wInt (cy 0) 8 (A 0)), ((r 1), wInt (cy 0) 8 (A 1)), ((r 2), wInt (cy 0) 320 (A 2)), ((r 5), wInt (cy 0) 60 (A 5)), ((r 12), wInt (cy 0) 37 (A 12)), ((r 13), wInt (cy 0) 37 (A 13)), ((r 15), wInt (cy 0) 37 (A 15)), ((r 16), wInt (cy 0) 74 (A 16)), ((r 17), wInt (cy 1) 2 (A 17)), ((r 18), wInt (cy 0) 888 (A 18)), ((r 20), wInt (cy 0) 16 (A 20)), ((r 22), wInt (cy 0) 16 (A 22)), ((r 23), wInt (cy 0) 24 (A 23))]) (ws' := (fun _ : Unit => mW cy h r v (va_up A 14 (nightsS ((behindS f2 n (drX x (j + 1) % n) (nI (drX x (j + 1) % dr)))) n 1)))) (va_runS (As := [.ref (r 14)]) (rest := [.int sm]) CF (k_X12_matesIn l D cy _ (r 14) (nightsS ((behindS f2 n (drX x (j + 1) % n) (nI (drX x (j + 1) % dr)))) n 1) n (by first | assumption | omega | decide) (hC2b.night _).1) (va_cwS 1 hts gX12_drawn_X12_matesIn rfl rfl rfl (by decide +kernel) ⟨Nat.le_of_ble_eq_true rfl, Nat.le_of_ble_eq_true rfl⟩) (pre_S hKN hP hD [7] rfl (by decide)) rfl rfl hl.1 rfl (lv_room (Nat.le_of_ble_eq_true rfl)) dX12_drawn_155 ⟨Nat.le_of_ble_eq_true rfl, Nat.le_of_ble_eq_true rfl⟩) hS hA hP hD [7] [0, 1, 2, 3, 4, 5, 6, 8, 9, 10, 11, 12, 13, 14] [0, 1, 2, 3, 4, 5, 6, 14, 7, 8, 9, 10, 11, 12, 13] rfl rfl (by decide) (by decide) (fun _ => rfl) (by decide) (fun r50 u49 H locs hw51 hP hD hS => ?_)
                    replace hw51 := hw51.symm; subst hw51
                    refine call_i (wr := [(h, .inr (11, mO r v)), ((r 0), wInt (cy 0) 8 (A 0)), ((r 1), wInt (cy 0) 8 (A 1)), ((r 2), wInt (cy 0) 320 (A 2)), ((r 5), wInt (cy 0) 60 (A 5)), ((r 12), wInt (cy 0) 37 (A 12)), ((r 13), wInt (cy 0) 37 (A 13)), ((r 14), wInt (cy 0) 37 (nightsS ((behindS f2 n (drX x (j + 1) % n) (nI (drX x (j + 1) % dr)))) n 1)), ((r 15), wInt (cy 0) 37 (A 15)), ((r 16), wInt (cy 0) 74 (A 16)), ((r 17), wInt (cy 1) 2 (A 17)), ((r 18), wInt (cy 0) 888 (A 18)), ((r 20), wInt (cy 0) 16 (A 20)), ((r 22), wInt (cy 0) 16 (A 22)), ((r 23), wInt (cy 0) 24 (A 23))]) (ws' := (fun _ : Unit => mW cy h r v (va_up A 14 (nightsS ((behindS f2 n (drX x (j + 1) % n) (nI (drX x (j + 1) % dr)))) n 1)))) (va_runS (As := [.int (matesN (nightsS ((behindS f2 n (drX x (j + 1) % n) (nI (drX x (j + 1) % dr)))) n 1) n n)]) (rest := [.int sm]) CF (k_X12_bits l D cy _ (matesN (nightsS ((behindS f2 n (drX x (j + 1) % n) (nI (drX x (j + 1) % dr)))) n 1) n n) ) (va_cwS 1 hts gX12_drawn_X12_bits rfl rfl rfl (by decide +kernel) ⟨Nat.le_of_ble_eq_true rfl, Nat.le_of_ble_eq_true rfl⟩) (pre_S hKN hP hD [] rfl (by decide)) rfl rfl hl.1 rfl (lv_room (Nat.le_of_ble_eq_true rfl)) dX12_drawn_158 ⟨Nat.le_of_ble_eq_true rfl, Nat.le_of_ble_eq_true rfl⟩) hS hA hP hD [] [0, 1, 2, 3, 4, 5, 6, 7, 8, 9, 10, 11, 12, 13, 14] [0, 1, 2, 3, 4, 5, 6, 7, 8, 9, 10, 11, 12, 13, 14] rfl rfl (by decide) (by decide) (fun _ => rfl) (by decide) (fun r53 u52 H locs hw54 hP hD hS => ?_)
                    replace hw54 := hw54.symm; subst hw54
                    refine lv_iadd hx hb dX12_drawn_161 ?_
                    refine lv_istore (lv' := [(6, .int (sm + bitsN (matesN (nightsS ((behindS f2 n (drX x (j + 1) % n) (nI (drX x (j + 1) % dr)))) n 1) n n) 8)), (9, .int (nI (drX x (j + 1) % dr))), (8, .int (nI (drX x (j + 1) % n))), (4, .long (lN (drX x (j + 1)))), (0, .ref h), (1, .int (nI m)), (2, .int (nI x)), (3, .int w0), (7, .int (nI j))]) hx hb dX12_drawn_162 hl (by decide) rfl (fun ls hl => ?_)
                    refine lv_iinc (v := nI (j + 1)) (lv' := [(7, .int (nI (j + 1))), (6, .int (sm + bitsN (matesN (nightsS ((behindS f2 n (drX x (j + 1) % n) (nI (drX x (j + 1) % dr)))) n 1) n n) 8)), (9, .int (nI (drX x (j + 1) % dr))), (8, .int (nI (drX x (j + 1) % n))), (4, .long (lN (drX x (j + 1)))), (0, .ref h), (1, .int (nI m)), (2, .int (nI x)), (3, .int w0)]) hx hb dX12_drawn_164 hl (k := 8) rfl (nI_1 _) (by decide) rfl (fun ls hl => ?_)
                    refine lv_goto (tgt := 56) hx hb dX12_drawn_167 (by decide) ?_
                    exact ih56 (j + 1) (drX x (j + 1)) (sm + bitsN (matesN (nightsS ((behindS f2 n (drX x (j + 1) % n) (nI (drX x (j + 1) % dr)))) n 1) n n) 8) (nightsS ((behindS f2 n (drX x (j + 1) % n) (nI (drX x (j + 1) % dr)))) n 1) (by omega) (by omega) rfl (hC2b.night _) (by rw [drS, ← e2, ← eP]; rfl) (by rw [drM, ← es, drS, ← e2, ← eP]; rfl) _ _ hP hD hS ls (lv_sub hl [5, 6, 7, 8, 4, 1, 0] rfl)
          exact lp56 (m - 0 + 1) 0 x (nI 0) (A 12) (by omega) (by omega) rfl hC rfl rfl _ _ hP hD hS ls (lv_sub hl [3, 4, 5, 6, 2, 1, 0] rfl)
        · refine lv_ldc hx hb hown hc66 dX12_drawn_39 ?_
          exact ret _ A _ _ _ _ dX12_drawn_41 ⟨(by simp [-not_and, -Int32.not_le, -Int32.not_lt, noOne, noDr, mDrwn, c4, c17, e_m, c27, e_x, c36]), (fun j h1 h2 h3 h4 => by simp [va_up, h1, h2, h3, h4])⟩ hP hD hS
  · refine lv_ldc hx hb hown hc172 dX12_drawn_7 ?_
    exact ret _ A _ _ _ _ dX12_drawn_9 ⟨(by simp [-not_and, -Int32.not_le, -Int32.not_lt, noOne, noDr, mDrwn, c4]), (fun j h1 h2 h3 h4 => by simp [va_up, h1, h2, h3, h4])⟩ hP hD hS
