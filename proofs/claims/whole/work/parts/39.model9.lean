set_option maxHeartbeats 4000000 in
set_option maxRecDepth 100000 in
theorem k_X12_nextToken (l : Launch) (D : va_G) (cy : Nat → ClassId) (sz : Nat) (h : Nat) (r : Nat → Nat) (v : Nat → Int32) (A : Nat → Nat → Int32) (f5 : Nat → Int32) (L : Nat) (p : Nat) (hL : L ≤ 60) (hp : p ≤ L) : Met l yX12_nextToken wsX12_nextToken (rmD 1) (pPre D (TY cy) (mW cy h r (upd (upd v 4 (nI L)) 6 (nI p)) (va_up A 5 f5)) sz [.ref h]) (pV D (TY cy) (mW cy h r (upd (upd v 4 (nI L)) 6 (nI p)) (va_up A 5 f5)) sz (fun u : Int32 × Int32 × Int32 => mW cy h r (upd (upd (upd (upd (upd v 4 (nI L)) 7 (nI p)) 6 u.1) 8 u.2.1) 9 u.2.2) (va_up A 5 f5)) (fun (u : Int32 × Int32 × Int32) => u = (nI (tokP f5 L p), tokK f5 L p, tokN f5 L p))) 0 0 (va_A (mW cy h r (upd (upd v 4 (nI L)) 6 (nI p)) (va_up A 5 f5)) sz) := by
  refine ent_v (cc := cX12_nextToken) (maxL := 2) (by decide +kernel) rfl (Nat.le_of_ble_eq_true rfl) ?_
  intro p_ e_ s_ m_ args_ below_ meth_ c_ A_ Q_ ls B0 ret
  obtain ⟨CF, hA, hKN, hP, hD, hl⟩ := B0
  have hK := hKN.1
  obtain ⟨hx, hb, hml, hown, hts⟩ := id CF
  have hS : va_S A_ s_.heap s_.heap [] := va_S.rf
  have hl : lv_has ls 2 [(0, .ref h)] := hl
  have hf81 := hts (.fieldLink RX12 81 "DrawerCardsModel" "position" "I") (by decide +kernel)
  have hinX12 := show ∀ w ∈ u_ws RX12 TX12 24, w ∈ wsX12_nextToken from by decide +kernel
  have hf84 := hts (.fieldLink RX12 84 "DrawerCardsModel" "tokenAt" "I") (by decide +kernel)
  have hf87 := hts (.fieldLink RX12 87 "DrawerCardsModel" "number" "I") (by decide +kernel)
  have hf77 := hts (.fieldLink RX12 77 "DrawerCardsModel" "letters" "I") (by decide +kernel)
  have hf19 := hts (.fieldLink RX12 19 "DrawerCardsModel" "tape" "[I") (by decide +kernel)
  have hf90 := hts (.fieldLink RX12 90 "DrawerCardsModel" "token" "I") (by decide +kernel)
  refine lv_aload_n hx hb dX12_nextToken_0 rfl (lv_at hl 0 rfl) ?_
  refine lv_aload_n hx hb dX12_nextToken_1 rfl (lv_at hl 0 rfl) ?_
  refine va_get (ci := 11) (v := .int (nI p)) (C := RX12) (T := TX12) (N := 24) hx hb hts hinX12 hown hK hP 0 rfl rfl 6 (by decide) hf81 (fun _ h9 => h9) rfl dX12_nextToken_2 ?_
  refine va_put (ci := 11) (v := .int (nI p)) (ty := .int) (C := RX12) (T := TX12) (N := 24) hx hb hts hinX12 tyX12 tyX12_ok nmX12 hown hK hP hD hS 0 rfl rfl 7 (by decide) hf84 (fun _ h9 => h9) rfl (by decide +kernel) rfl rfl (Nat.le_of_ble_eq_true rfl) dX12_nextToken_5 (fun H locs hP hD hS => ?_)
  have hP : va_P D vwCl (mW cy h r (upd (upd (upd v 4 (nI L)) 6 (nI p)) 7 (nI p)) (va_up A 5 f5)) H := hP
  have hD : va_D A_ (mW cy h r (upd (upd (upd v 4 (nI L)) 6 (nI p)) 7 (nI p)) (va_up A 5 f5)) := hD
  refine lv_aload_n hx hb dX12_nextToken_8 rfl (lv_at hl 0 rfl) ?_
  refine lv_iconst (v := nI 0) hx hb dX12_nextToken_9 (by decide) ?_
  refine va_put (ci := 11) (v := .int (nI 0)) (ty := .int) (C := RX12) (T := TX12) (N := 24) hx hb hts hinX12 tyX12 tyX12_ok nmX12 hown hK hP hD hS 0 rfl rfl 9 (by decide) hf87 (fun _ h9 => h9) rfl (by decide +kernel) rfl rfl (Nat.le_of_ble_eq_true rfl) dX12_nextToken_10 (fun H locs hP hD hS => ?_)
  have hP : va_P D vwCl (mW cy h r (upd (upd (upd (upd v 4 (nI L)) 6 (nI p)) 7 (nI p)) 9 (nI 0)) (va_up A 5 f5)) H := hP
  have hD : va_D A_ (mW cy h r (upd (upd (upd (upd v 4 (nI L)) 6 (nI p)) 7 (nI p)) 9 (nI 0)) (va_up A 5 f5)) := hD
  refine lv_aload_n hx hb dX12_nextToken_13 rfl (lv_at hl 0 rfl) ?_
  refine va_get (ci := 11) (v := .int (nI p)) (C := RX12) (T := TX12) (N := 24) hx hb hts hinX12 hown hK hP 0 rfl rfl 6 (by decide) hf81 (fun _ h9 => h9) rfl dX12_nextToken_14 ?_
  refine lv_aload_n hx hb dX12_nextToken_17 rfl (lv_at hl 0 rfl) ?_
  refine va_get (ci := 11) (v := .int (nI L)) (C := RX12) (T := TX12) (N := 24) hx hb hts hinX12 hown hK hP 0 rfl rfl 4 (by decide) hf77 (fun _ h9 => h9) rfl dX12_nextToken_18 ?_
  refine neN (tgt := 31) hx hb (by omega) (by omega) dX12_nextToken_21 (by decide) (fun c21 => ?_) (fun c21 => ?_)
  · refine lv_aload_n hx hb dX12_nextToken_31 rfl (lv_at hl 0 rfl) ?_
    refine va_get (ci := 11) (v := .ref (r 5)) (C := RX12) (T := TX12) (N := 24) hx hb hts hinX12 hown hK hP 0 rfl rfl 5 (by decide) hf19 (fun _ h9 => h9) rfl dX12_nextToken_32 ?_
    refine lv_aload_n hx hb dX12_nextToken_35 rfl (lv_at hl 0 rfl) ?_
    refine va_get (ci := 11) (v := .int (nI p)) (C := RX12) (T := TX12) (N := 24) hx hb hts hinX12 hown hK hP 0 rfl rfl 6 (by decide) hf81 (fun _ h9 => h9) rfl dX12_nextToken_36 ?_
    refine ldN (f := f5) hx hb hK hP 4 rfl (j := p) (by omega) (by decide) dX12_nextToken_39 ?_
    refine lv_istore_n (lv' := [(1, .int (f5 p)), (0, .ref h)]) hx hb dX12_nextToken_40 rfl hl (by decide) rfl (fun ls hl => ?_)
    refine lv_iload_n hx hb dX12_nextToken_41 rfl (lv_at hl 0 rfl) ?_
    refine lv_bipush (v := nI 48) hx hb dX12_nextToken_42 (by decide) ?_
    refine lv_bipush (v := nI 57) hx hb dX12_nextToken_44 (by decide) ?_
    refine call_i (wr := [(h, .inr (11, mO r (upd (upd (upd (upd v 4 (nI L)) 6 (nI p)) 7 (nI p)) 9 (nI 0)))), ((r 0), wInt (cy 0) 8 (A 0)), ((r 1), wInt (cy 0) 8 (A 1)), ((r 2), wInt (cy 0) 320 (A 2)), ((r 5), wInt (cy 0) 60 f5), ((r 12), wInt (cy 0) 37 (A 12)), ((r 13), wInt (cy 0) 37 (A 13)), ((r 14), wInt (cy 0) 37 (A 14)), ((r 15), wInt (cy 0) 37 (A 15)), ((r 16), wInt (cy 0) 74 (A 16)), ((r 17), wInt (cy 1) 2 (A 17)), ((r 18), wInt (cy 0) 888 (A 18)), ((r 20), wInt (cy 0) 16 (A 20)), ((r 22), wInt (cy 0) 16 (A 22)), ((r 23), wInt (cy 0) 24 (A 23))]) (ws' := (fun _ : Unit => mW cy h r (upd (upd (upd (upd v 4 (nI L)) 6 (nI p)) 7 (nI p)) 9 (nI 0)) (va_up A 5 f5))) (va_runS (As := [.int (f5 p), .int (nI 48), .int (nI 57)]) (rest := []) CF (k_X12_in l D cy _ (f5 p) (nI 48) (nI 57) ) (va_cwS 3 hts gX12_nextToken_X12_in rfl rfl rfl (by decide +kernel) ⟨Nat.le_of_ble_eq_true rfl, Nat.le_of_ble_eq_true rfl⟩) (pre_S hKN hP hD [] rfl (by decide)) rfl rfl hl.1 rfl (lv_room (Nat.le_of_ble_eq_true rfl)) dX12_nextToken_46 ⟨Nat.le_of_ble_eq_true rfl, Nat.le_of_ble_eq_true rfl⟩) hS hA hP hD [] [0, 1, 2, 3, 4, 5, 6, 7, 8, 9, 10, 11, 12, 13, 14] [0, 1, 2, 3, 4, 5, 6, 7, 8, 9, 10, 11, 12, 13, 14] rfl rfl (by decide) (by decide) (fun _ => rfl) (by decide) (fun r2 u1 H locs hw3 hP hD hS => ?_)
    replace hw3 := hw3.symm; subst hw3
    refine ifeqB (tgt := 163) hx hb dX12_nextToken_49 (by decide) (fun c49 => ?_) (fun c49 => ?_)
    · replace c49 : ¬ ((nI 48) ≤ (f5 p) ∧ (f5 p) ≤ (nI 57)) := c49
      refine lv_aload_n hx hb dX12_nextToken_163 rfl (lv_at hl 1 rfl) ?_
      refine lv_iload_n hx hb dX12_nextToken_164 rfl (lv_at hl 0 rfl) ?_
      refine lv_bipush (v := nI 97) hx hb dX12_nextToken_165 (by decide) ?_
      refine lv_bipush (v := nI 122) hx hb dX12_nextToken_167 (by decide) ?_
      refine call_i (wr := [(h, .inr (11, mO r (upd (upd (upd (upd v 4 (nI L)) 6 (nI p)) 7 (nI p)) 9 (nI 0)))), ((r 0), wInt (cy 0) 8 (A 0)), ((r 1), wInt (cy 0) 8 (A 1)), ((r 2), wInt (cy 0) 320 (A 2)), ((r 5), wInt (cy 0) 60 f5), ((r 12), wInt (cy 0) 37 (A 12)), ((r 13), wInt (cy 0) 37 (A 13)), ((r 14), wInt (cy 0) 37 (A 14)), ((r 15), wInt (cy 0) 37 (A 15)), ((r 16), wInt (cy 0) 74 (A 16)), ((r 17), wInt (cy 1) 2 (A 17)), ((r 18), wInt (cy 0) 888 (A 18)), ((r 20), wInt (cy 0) 16 (A 20)), ((r 22), wInt (cy 0) 16 (A 22)), ((r 23), wInt (cy 0) 24 (A 23))]) (ws' := (fun _ : Unit => mW cy h r (upd (upd (upd (upd v 4 (nI L)) 6 (nI p)) 7 (nI p)) 9 (nI 0)) (va_up A 5 f5))) (va_runS (As := [.int (f5 p), .int (nI 97), .int (nI 122)]) (rest := [.ref h]) CF (k_X12_in l D cy _ (f5 p) (nI 97) (nI 122) ) (va_cwS 3 hts gX12_nextToken_X12_in rfl rfl rfl (by decide +kernel) ⟨Nat.le_of_ble_eq_true rfl, Nat.le_of_ble_eq_true rfl⟩) (pre_S hKN hP hD [] rfl (by decide)) rfl rfl hl.1 rfl (lv_room (Nat.le_of_ble_eq_true rfl)) dX12_nextToken_169 ⟨Nat.le_of_ble_eq_true rfl, Nat.le_of_ble_eq_true rfl⟩) hS hA hP hD [] [0, 1, 2, 3, 4, 5, 6, 7, 8, 9, 10, 11, 12, 13, 14] [0, 1, 2, 3, 4, 5, 6, 7, 8, 9, 10, 11, 12, 13, 14] rfl rfl (by decide) (by decide) (fun _ => rfl) (by decide) (fun r5 u4 H locs hw6 hP hD hS => ?_)
      replace hw6 := hw6.symm; subst hw6
      refine ifneB (tgt := 187) hx hb dX12_nextToken_172 (by decide) (fun c172 => ?_) (fun c172 => ?_)
      · replace c172 : ((nI 97) ≤ (f5 p) ∧ (f5 p) ≤ (nI 122)) := c172
        refine lv_iload_n hx hb dX12_nextToken_187 rfl (lv_at hl 0 rfl) ?_
        refine lv_goto (tgt := 193) hx hb dX12_nextToken_188 (by decide) ?_
        refine va_put (ci := 11) (v := .int (f5 p)) (ty := .int) (C := RX12) (T := TX12) (N := 24) hx hb hts hinX12 tyX12 tyX12_ok nmX12 hown hK hP hD hS 0 rfl rfl 8 (by decide) hf90 (fun _ h9 => h9) rfl (by decide +kernel) rfl rfl (Nat.le_of_ble_eq_true rfl) dX12_nextToken_193 (fun H locs hP hD hS => ?_)
        have hP : va_P D vwCl (mW cy h r (upd (upd (upd (upd (upd v 4 (nI L)) 6 (nI p)) 7 (nI p)) 9 (nI 0)) 8 (f5 p)) (va_up A 5 f5)) H := hP
        have hD : va_D A_ (mW cy h r (upd (upd (upd (upd (upd v 4 (nI L)) 6 (nI p)) 7 (nI p)) 9 (nI 0)) 8 (f5 p)) (va_up A 5 f5)) := hD
        refine lv_aload_n hx hb dX12_nextToken_196 rfl (lv_at hl 1 rfl) ?_
        refine lv_dup hx hb dX12_nextToken_197 rfl ?_
        refine va_get (ci := 11) (v := .int (nI p)) (C := RX12) (T := TX12) (N := 24) hx hb hts hinX12 hown hK hP 0 rfl rfl 6 (by decide) hf81 (fun _ h9 => h9) rfl dX12_nextToken_198 ?_
        refine lv_iconst (v := nI 1) hx hb dX12_nextToken_201 (by decide) ?_
        refine adN (k := p + 1) hx hb rfl dX12_nextToken_202 ?_
        refine va_put (ci := 11) (v := .int (nI (p + 1))) (ty := .int) (C := RX12) (T := TX12) (N := 24) hx hb hts hinX12 tyX12 tyX12_ok nmX12 hown hK hP hD hS 0 rfl rfl 6 (by decide) hf81 (fun _ h9 => h9) rfl (by decide +kernel) rfl rfl (Nat.le_of_ble_eq_true rfl) dX12_nextToken_203 (fun H locs hP hD hS => ?_)
        have hP : va_P D vwCl (mW cy h r (upd (upd (upd (upd (upd v 4 (nI L)) 7 (nI p)) 9 (nI 0)) 8 (f5 p)) 6 (nI (p + 1))) (va_up A 5 f5)) H := hP
        have hD : va_D A_ (mW cy h r (upd (upd (upd (upd (upd v 4 (nI L)) 7 (nI p)) 9 (nI 0)) 8 (f5 p)) 6 (nI (p + 1))) (va_up A 5 f5)) := hD
        exact ret ((nI (p + 1)), (f5 p), (nI 0)) _ _ _ _ dX12_nextToken_206 (by have t := tok_sgn (f := f5) c21 c49; rw [if_pos (by first | exact Or.inl c172 | exact Or.inr (Or.inl c178) | exact Or.inr (Or.inr c184))] at t; exact t) hP hD hS
      · replace c172 : ¬ ((nI 97) ≤ (f5 p) ∧ (f5 p) ≤ (nI 122)) := c172
        refine lv_iload_n hx hb dX12_nextToken_175 rfl (lv_at hl 0 rfl) ?_
        refine lv_bipush (v := nI 44) hx hb dX12_nextToken_176 (by decide) ?_
        refine lv_icmp_eq (tgt := 187) hx hb dX12_nextToken_178 (by decide) (fun c178 => ?_) (fun c178 => ?_)
        · refine lv_iload_n hx hb dX12_nextToken_187 rfl (lv_at hl 0 rfl) ?_
          refine lv_goto (tgt := 193) hx hb dX12_nextToken_188 (by decide) ?_
          refine va_put (ci := 11) (v := .int (f5 p)) (ty := .int) (C := RX12) (T := TX12) (N := 24) hx hb hts hinX12 tyX12 tyX12_ok nmX12 hown hK hP hD hS 0 rfl rfl 8 (by decide) hf90 (fun _ h9 => h9) rfl (by decide +kernel) rfl rfl (Nat.le_of_ble_eq_true rfl) dX12_nextToken_193 (fun H locs hP hD hS => ?_)
          have hP : va_P D vwCl (mW cy h r (upd (upd (upd (upd (upd v 4 (nI L)) 6 (nI p)) 7 (nI p)) 9 (nI 0)) 8 (f5 p)) (va_up A 5 f5)) H := hP
          have hD : va_D A_ (mW cy h r (upd (upd (upd (upd (upd v 4 (nI L)) 6 (nI p)) 7 (nI p)) 9 (nI 0)) 8 (f5 p)) (va_up A 5 f5)) := hD
          refine lv_aload_n hx hb dX12_nextToken_196 rfl (lv_at hl 1 rfl) ?_
          refine lv_dup hx hb dX12_nextToken_197 rfl ?_
          refine va_get (ci := 11) (v := .int (nI p)) (C := RX12) (T := TX12) (N := 24) hx hb hts hinX12 hown hK hP 0 rfl rfl 6 (by decide) hf81 (fun _ h9 => h9) rfl dX12_nextToken_198 ?_
          refine lv_iconst (v := nI 1) hx hb dX12_nextToken_201 (by decide) ?_
          refine adN (k := p + 1) hx hb rfl dX12_nextToken_202 ?_
          refine va_put (ci := 11) (v := .int (nI (p + 1))) (ty := .int) (C := RX12) (T := TX12) (N := 24) hx hb hts hinX12 tyX12 tyX12_ok nmX12 hown hK hP hD hS 0 rfl rfl 6 (by decide) hf81 (fun _ h9 => h9) rfl (by decide +kernel) rfl rfl (Nat.le_of_ble_eq_true rfl) dX12_nextToken_203 (fun H locs hP hD hS => ?_)
          have hP : va_P D vwCl (mW cy h r (upd (upd (upd (upd (upd v 4 (nI L)) 7 (nI p)) 9 (nI 0)) 8 (f5 p)) 6 (nI (p + 1))) (va_up A 5 f5)) H := hP
          have hD : va_D A_ (mW cy h r (upd (upd (upd (upd (upd v 4 (nI L)) 7 (nI p)) 9 (nI 0)) 8 (f5 p)) 6 (nI (p + 1))) (va_up A 5 f5)) := hD
          exact ret ((nI (p + 1)), (f5 p), (nI 0)) _ _ _ _ dX12_nextToken_206 (by have t := tok_sgn (f := f5) c21 c49; rw [if_pos (by first | exact Or.inl c172 | exact Or.inr (Or.inl c178) | exact Or.inr (Or.inr c184))] at t; exact t) hP hD hS
        · refine lv_iload_n hx hb dX12_nextToken_181 rfl (lv_at hl 0 rfl) ?_
          refine lv_bipush (v := nI 59) hx hb dX12_nextToken_182 (by decide) ?_
          refine lv_icmp_ne (tgt := 191) hx hb dX12_nextToken_184 (by decide) (fun c184 => ?_) (fun c184 => ?_)
          · refine lv_bipush (v := (-3)) hx hb dX12_nextToken_191 (by decide) ?_
            refine va_put (ci := 11) (v := .int (-3)) (ty := .int) (C := RX12) (T := TX12) (N := 24) hx hb hts hinX12 tyX12 tyX12_ok nmX12 hown hK hP hD hS 0 rfl rfl 8 (by decide) hf90 (fun _ h9 => h9) rfl (by decide +kernel) rfl rfl (Nat.le_of_ble_eq_true rfl) dX12_nextToken_193 (fun H locs hP hD hS => ?_)
            have hP : va_P D vwCl (mW cy h r (upd (upd (upd (upd (upd v 4 (nI L)) 6 (nI p)) 7 (nI p)) 9 (nI 0)) 8 (-3)) (va_up A 5 f5)) H := hP
            have hD : va_D A_ (mW cy h r (upd (upd (upd (upd (upd v 4 (nI L)) 6 (nI p)) 7 (nI p)) 9 (nI 0)) 8 (-3)) (va_up A 5 f5)) := hD
            refine lv_aload_n hx hb dX12_nextToken_196 rfl (lv_at hl 1 rfl) ?_
            refine lv_dup hx hb dX12_nextToken_197 rfl ?_
            refine va_get (ci := 11) (v := .int (nI p)) (C := RX12) (T := TX12) (N := 24) hx hb hts hinX12 hown hK hP 0 rfl rfl 6 (by decide) hf81 (fun _ h9 => h9) rfl dX12_nextToken_198 ?_
            refine lv_iconst (v := nI 1) hx hb dX12_nextToken_201 (by decide) ?_
            refine adN (k := p + 1) hx hb rfl dX12_nextToken_202 ?_
            refine va_put (ci := 11) (v := .int (nI (p + 1))) (ty := .int) (C := RX12) (T := TX12) (N := 24) hx hb hts hinX12 tyX12 tyX12_ok nmX12 hown hK hP hD hS 0 rfl rfl 6 (by decide) hf81 (fun _ h9 => h9) rfl (by decide +kernel) rfl rfl (Nat.le_of_ble_eq_true rfl) dX12_nextToken_203 (fun H locs hP hD hS => ?_)
            have hP : va_P D vwCl (mW cy h r (upd (upd (upd (upd (upd v 4 (nI L)) 7 (nI p)) 9 (nI 0)) 8 (-3)) 6 (nI (p + 1))) (va_up A 5 f5)) H := hP
            have hD : va_D A_ (mW cy h r (upd (upd (upd (upd (upd v 4 (nI L)) 7 (nI p)) 9 (nI 0)) 8 (-3)) 6 (nI (p + 1))) (va_up A 5 f5)) := hD
            exact ret ((nI (p + 1)), (-3), (nI 0)) _ _ _ _ dX12_nextToken_206 (by have t := tok_sgn (f := f5) c21 c49; rw [if_neg (fun z => z.elim c172 (fun z => z.elim c178 c184))] at t; exact t) hP hD hS
          · refine lv_iload_n hx hb dX12_nextToken_187 rfl (lv_at hl 0 rfl) ?_
            refine lv_goto (tgt := 193) hx hb dX12_nextToken_188 (by decide) ?_
            refine va_put (ci := 11) (v := .int (f5 p)) (ty := .int) (C := RX12) (T := TX12) (N := 24) hx hb hts hinX12 tyX12 tyX12_ok nmX12 hown hK hP hD hS 0 rfl rfl 8 (by decide) hf90 (fun _ h9 => h9) rfl (by decide +kernel) rfl rfl (Nat.le_of_ble_eq_true rfl) dX12_nextToken_193 (fun H locs hP hD hS => ?_)
            have hP : va_P D vwCl (mW cy h r (upd (upd (upd (upd (upd v 4 (nI L)) 6 (nI p)) 7 (nI p)) 9 (nI 0)) 8 (f5 p)) (va_up A 5 f5)) H := hP
            have hD : va_D A_ (mW cy h r (upd (upd (upd (upd (upd v 4 (nI L)) 6 (nI p)) 7 (nI p)) 9 (nI 0)) 8 (f5 p)) (va_up A 5 f5)) := hD
            refine lv_aload_n hx hb dX12_nextToken_196 rfl (lv_at hl 1 rfl) ?_
            refine lv_dup hx hb dX12_nextToken_197 rfl ?_
            refine va_get (ci := 11) (v := .int (nI p)) (C := RX12) (T := TX12) (N := 24) hx hb hts hinX12 hown hK hP 0 rfl rfl 6 (by decide) hf81 (fun _ h9 => h9) rfl dX12_nextToken_198 ?_
            refine lv_iconst (v := nI 1) hx hb dX12_nextToken_201 (by decide) ?_
            refine adN (k := p + 1) hx hb rfl dX12_nextToken_202 ?_
            refine va_put (ci := 11) (v := .int (nI (p + 1))) (ty := .int) (C := RX12) (T := TX12) (N := 24) hx hb hts hinX12 tyX12 tyX12_ok nmX12 hown hK hP hD hS 0 rfl rfl 6 (by decide) hf81 (fun _ h9 => h9) rfl (by decide +kernel) rfl rfl (Nat.le_of_ble_eq_true rfl) dX12_nextToken_203 (fun H locs hP hD hS => ?_)
            have hP : va_P D vwCl (mW cy h r (upd (upd (upd (upd (upd v 4 (nI L)) 7 (nI p)) 9 (nI 0)) 8 (f5 p)) 6 (nI (p + 1))) (va_up A 5 f5)) H := hP
            have hD : va_D A_ (mW cy h r (upd (upd (upd (upd (upd v 4 (nI L)) 7 (nI p)) 9 (nI 0)) 8 (f5 p)) 6 (nI (p + 1))) (va_up A 5 f5)) := hD
            exact ret ((nI (p + 1)), (f5 p), (nI 0)) _ _ _ _ dX12_nextToken_206 (by have t := tok_sgn (f := f5) c21 c49; rw [if_pos (by first | exact Or.inl c172 | exact Or.inr (Or.inl c178) | exact Or.inr (Or.inr c184))] at t; exact t) hP hD hS
    · replace c49 : ((nI 48) ≤ (f5 p) ∧ (f5 p) ≤ (nI 57)) := c49
      have lp52 : ∀ f_ : Nat, ∀ (b : Nat) (x : Int32), (L - b) < f_ → (p ≤ b) → (b ≤ L) → (runE f5 L (L - p) p = runE f5 L (L - b) b) → (nmE f5 L p (L - p) p (nI 0) = nmE f5 L p (L - b) b x) → ∀ (H : Heap) (locs : List Loc), va_P D vwCl (mW cy h r (upd (upd (upd (upd v 4 (nI L)) 7 (nI p)) 9 x) 6 (nI b)) (va_up A 5 f5)) H → va_D A_ (mW cy h r (upd (upd (upd (upd v 4 (nI L)) 7 (nI p)) 9 x) 6 (nI b)) (va_up A 5 f5)) → va_S A_ s_.heap H locs → ∀ ls : Array Slot, lv_has ls 2 [(0, .ref h)] → W p_ l e_ (rmD 1) s_ m_ args_ below_ meth_ c_ H locs 0 0 Q_ (F0 m_ 52 ls []) := by
        intro f_
        induction f_ with
        | zero => intro b x hm_; exact absurd hm_ (by omega)
        | succ f_ ih52 =>
          intro b x hm_ hb1 hb2 eE eN H locs hP hD hS ls hl
          refine lv_aload_n hx hb dX12_nextToken_52 rfl (lv_at hl 0 rfl) ?_
          refine va_get (ci := 11) (v := .int (nI b)) (C := RX12) (T := TX12) (N := 24) hx hb hts hinX12 hown hK hP 0 rfl rfl 6 (by decide) hf81 (fun _ h9 => h9) rfl dX12_nextToken_53 ?_
          refine lv_aload_n hx hb dX12_nextToken_56 rfl (lv_at hl 0 rfl) ?_
          refine va_get (ci := 11) (v := .int (nI L)) (C := RX12) (T := TX12) (N := 24) hx hb hts hinX12 hown hK hP 0 rfl rfl 4 (by decide) hf77 (fun _ h9 => h9) rfl dX12_nextToken_57 ?_
          refine geN (tgt := 139) hx hb (by omega) (by omega) dX12_nextToken_60 (by decide) (fun c60 => ?_) (fun c60 => ?_)
          · refine lv_aload_n hx hb dX12_nextToken_139 rfl (lv_at hl 0 rfl) ?_
            refine lv_aload_n hx hb dX12_nextToken_140 rfl (lv_at hl 0 rfl) ?_
            refine va_get (ci := 11) (v := .int (nI b)) (C := RX12) (T := TX12) (N := 24) hx hb hts hinX12 hown hK hP 0 rfl rfl 6 (by decide) hf81 (fun _ h9 => h9) rfl dX12_nextToken_141 ?_
            refine lv_aload_n hx hb dX12_nextToken_144 rfl (lv_at hl 0 rfl) ?_
            refine va_get (ci := 11) (v := .int (nI p)) (C := RX12) (T := TX12) (N := 24) hx hb hts hinX12 hown hK hP 0 rfl rfl 7 (by decide) hf84 (fun _ h9 => h9) rfl dX12_nextToken_145 ?_
            refine suN (k := b - p) hx hb (by omega) dX12_nextToken_148 ?_
            refine lv_iconst (v := nI 2) hx hb dX12_nextToken_149 (by decide) ?_
            refine leN (tgt := 158) hx hb (by omega) (by decide) dX12_nextToken_150 (by decide) (fun c150 => ?_) (fun c150 => ?_)
            · refine lv_iconst (v := (-1)) hx hb dX12_nextToken_158 (by decide) ?_
              refine va_put (ci := 11) (v := .int (-1)) (ty := .int) (C := RX12) (T := TX12) (N := 24) hx hb hts hinX12 tyX12 tyX12_ok nmX12 hown hK hP hD hS 0 rfl rfl 8 (by decide) hf90 (fun _ h9 => h9) rfl (by decide +kernel) rfl rfl (Nat.le_of_ble_eq_true rfl) dX12_nextToken_159 (fun H locs hP hD hS => ?_)
              have hP : va_P D vwCl (mW cy h r (upd (upd (upd (upd (upd v 4 (nI L)) 7 (nI p)) 9 x) 6 (nI b)) 8 (-1)) (va_up A 5 f5)) H := hP
              have hD : va_D A_ (mW cy h r (upd (upd (upd (upd (upd v 4 (nI L)) 7 (nI p)) 9 x) 6 (nI b)) 8 (-1)) (va_up A 5 f5)) := hD
              exact ret ((nI b), (-1), x) _ _ _ _ dX12_nextToken_162 (by have q : ¬ (b < L ∧ isFig (f5 b)) := (fun z => by first | omega | exact c79 z.2); rw [runE_stop q] at eE; rw [nmE_stop q] at eN; have t := tok_fig (f := f5) c21 c49 eE eN; first | (rw [if_pos c150] at t; exact t) | (rw [if_neg (Nat.not_le_of_lt c150)] at t; exact t)) hP hD hS
            · refine lv_bipush (v := (-3)) hx hb dX12_nextToken_153 (by decide) ?_
              refine lv_goto (tgt := 159) hx hb dX12_nextToken_155 (by decide) ?_
              refine va_put (ci := 11) (v := .int (-3)) (ty := .int) (C := RX12) (T := TX12) (N := 24) hx hb hts hinX12 tyX12 tyX12_ok nmX12 hown hK hP hD hS 0 rfl rfl 8 (by decide) hf90 (fun _ h9 => h9) rfl (by decide +kernel) rfl rfl (Nat.le_of_ble_eq_true rfl) dX12_nextToken_159 (fun H locs hP hD hS => ?_)
              have hP : va_P D vwCl (mW cy h r (upd (upd (upd (upd (upd v 4 (nI L)) 7 (nI p)) 9 x) 6 (nI b)) 8 (-3)) (va_up A 5 f5)) H := hP
              have hD : va_D A_ (mW cy h r (upd (upd (upd (upd (upd v 4 (nI L)) 7 (nI p)) 9 x) 6 (nI b)) 8 (-3)) (va_up A 5 f5)) := hD
              exact ret ((nI b), (-3), x) _ _ _ _ dX12_nextToken_162 (by have q : ¬ (b < L ∧ isFig (f5 b)) := (fun z => by first | omega | exact c79 z.2); rw [runE_stop q] at eE; rw [nmE_stop q] at eN; have t := tok_fig (f := f5) c21 c49 eE eN; first | (rw [if_pos c150] at t; exact t) | (rw [if_neg (Nat.not_le_of_lt c150)] at t; exact t)) hP hD hS
          · refine lv_aload_n hx hb dX12_nextToken_63 rfl (lv_at hl 0 rfl) ?_
            refine va_get (ci := 11) (v := .ref (r 5)) (C := RX12) (T := TX12) (N := 24) hx hb hts hinX12 hown hK hP 0 rfl rfl 5 (by decide) hf19 (fun _ h9 => h9) rfl dX12_nextToken_64 ?_
            refine lv_aload_n hx hb dX12_nextToken_67 rfl (lv_at hl 0 rfl) ?_
            refine va_get (ci := 11) (v := .int (nI b)) (C := RX12) (T := TX12) (N := 24) hx hb hts hinX12 hown hK hP 0 rfl rfl 6 (by decide) hf81 (fun _ h9 => h9) rfl dX12_nextToken_68 ?_
            refine ldN (f := f5) hx hb hK hP 4 rfl (j := b) (by omega) (by decide) dX12_nextToken_71 ?_
            refine lv_bipush (v := nI 48) hx hb dX12_nextToken_72 (by decide) ?_
            refine lv_bipush (v := nI 57) hx hb dX12_nextToken_74 (by decide) ?_
            refine call_i (wr := [(h, .inr (11, mO r (upd (upd (upd (upd v 4 (nI L)) 7 (nI p)) 9 x) 6 (nI b)))), ((r 0), wInt (cy 0) 8 (A 0)), ((r 1), wInt (cy 0) 8 (A 1)), ((r 2), wInt (cy 0) 320 (A 2)), ((r 5), wInt (cy 0) 60 f5), ((r 12), wInt (cy 0) 37 (A 12)), ((r 13), wInt (cy 0) 37 (A 13)), ((r 14), wInt (cy 0) 37 (A 14)), ((r 15), wInt (cy 0) 37 (A 15)), ((r 16), wInt (cy 0) 74 (A 16)), ((r 17), wInt (cy 1) 2 (A 17)), ((r 18), wInt (cy 0) 888 (A 18)), ((r 20), wInt (cy 0) 16 (A 20)), ((r 22), wInt (cy 0) 16 (A 22)), ((r 23), wInt (cy 0) 24 (A 23))]) (ws' := (fun _ : Unit => mW cy h r (upd (upd (upd (upd v 4 (nI L)) 7 (nI p)) 9 x) 6 (nI b)) (va_up A 5 f5))) (va_runS (As := [.int (f5 b), .int (nI 48), .int (nI 57)]) (rest := []) CF (k_X12_in l D cy _ (f5 b) (nI 48) (nI 57) ) (va_cwS 3 hts gX12_nextToken_X12_in rfl rfl rfl (by decide +kernel) ⟨Nat.le_of_ble_eq_true rfl, Nat.le_of_ble_eq_true rfl⟩) (pre_S hKN hP hD [] rfl (by decide)) rfl rfl hl.1 rfl (lv_room (Nat.le_of_ble_eq_true rfl)) dX12_nextToken_76 ⟨Nat.le_of_ble_eq_true rfl, Nat.le_of_ble_eq_true rfl⟩) hS hA hP hD [] [0, 1, 2, 3, 4, 5, 6, 7, 8, 9, 10, 11, 12, 13, 14] [0, 1, 2, 3, 4, 5, 6, 7, 8, 9, 10, 11, 12, 13, 14] rfl rfl (by decide) (by decide) (fun _ => rfl) (by decide) (fun r8 u7 H locs hw9 hP hD hS => ?_)
            replace hw9 := hw9.symm; subst hw9
            refine ifeqB (tgt := 139) hx hb dX12_nextToken_79 (by decide) (fun c79 => ?_) (fun c79 => ?_)
            · replace c79 : ¬ ((nI 48) ≤ (f5 b) ∧ (f5 b) ≤ (nI 57)) := c79
              refine lv_aload_n hx hb dX12_nextToken_139 rfl (lv_at hl 0 rfl) ?_
              refine lv_aload_n hx hb dX12_nextToken_140 rfl (lv_at hl 0 rfl) ?_
              refine va_get (ci := 11) (v := .int (nI b)) (C := RX12) (T := TX12) (N := 24) hx hb hts hinX12 hown hK hP 0 rfl rfl 6 (by decide) hf81 (fun _ h9 => h9) rfl dX12_nextToken_141 ?_
              refine lv_aload_n hx hb dX12_nextToken_144 rfl (lv_at hl 0 rfl) ?_
              refine va_get (ci := 11) (v := .int (nI p)) (C := RX12) (T := TX12) (N := 24) hx hb hts hinX12 hown hK hP 0 rfl rfl 7 (by decide) hf84 (fun _ h9 => h9) rfl dX12_nextToken_145 ?_
              refine suN (k := b - p) hx hb (by omega) dX12_nextToken_148 ?_
              refine lv_iconst (v := nI 2) hx hb dX12_nextToken_149 (by decide) ?_
              refine leN (tgt := 158) hx hb (by omega) (by decide) dX12_nextToken_150 (by decide) (fun c150 => ?_) (fun c150 => ?_)
              · refine lv_iconst (v := (-1)) hx hb dX12_nextToken_158 (by decide) ?_
                refine va_put (ci := 11) (v := .int (-1)) (ty := .int) (C := RX12) (T := TX12) (N := 24) hx hb hts hinX12 tyX12 tyX12_ok nmX12 hown hK hP hD hS 0 rfl rfl 8 (by decide) hf90 (fun _ h9 => h9) rfl (by decide +kernel) rfl rfl (Nat.le_of_ble_eq_true rfl) dX12_nextToken_159 (fun H locs hP hD hS => ?_)
                have hP : va_P D vwCl (mW cy h r (upd (upd (upd (upd (upd v 4 (nI L)) 7 (nI p)) 9 x) 6 (nI b)) 8 (-1)) (va_up A 5 f5)) H := hP
                have hD : va_D A_ (mW cy h r (upd (upd (upd (upd (upd v 4 (nI L)) 7 (nI p)) 9 x) 6 (nI b)) 8 (-1)) (va_up A 5 f5)) := hD
                exact ret ((nI b), (-1), x) _ _ _ _ dX12_nextToken_162 (by have q : ¬ (b < L ∧ isFig (f5 b)) := (fun z => by first | omega | exact c79 z.2); rw [runE_stop q] at eE; rw [nmE_stop q] at eN; have t := tok_fig (f := f5) c21 c49 eE eN; first | (rw [if_pos c150] at t; exact t) | (rw [if_neg (Nat.not_le_of_lt c150)] at t; exact t)) hP hD hS
              · refine lv_bipush (v := (-3)) hx hb dX12_nextToken_153 (by decide) ?_
                refine lv_goto (tgt := 159) hx hb dX12_nextToken_155 (by decide) ?_
                refine va_put (ci := 11) (v := .int (-3)) (ty := .int) (C := RX12) (T := TX12) (N := 24) hx hb hts hinX12 tyX12 tyX12_ok nmX12 hown hK hP hD hS 0 rfl rfl 8 (by decide) hf90 (fun _ h9 => h9) rfl (by decide +kernel) rfl rfl (Nat.le_of_ble_eq_true rfl) dX12_nextToken_159 (fun H locs hP hD hS => ?_)
                have hP : va_P D vwCl (mW cy h r (upd (upd (upd (upd (upd v 4 (nI L)) 7 (nI p)) 9 x) 6 (nI b)) 8 (-3)) (va_up A 5 f5)) H := hP
                have hD : va_D A_ (mW cy h r (upd (upd (upd (upd (upd v 4 (nI L)) 7 (nI p)) 9 x) 6 (nI b)) 8 (-3)) (va_up A 5 f5)) := hD
                exact ret ((nI b), (-3), x) _ _ _ _ dX12_nextToken_162 (by have q : ¬ (b < L ∧ isFig (f5 b)) := (fun z => by first | omega | exact c79 z.2); rw [runE_stop q] at eE; rw [nmE_stop q] at eN; have t := tok_fig (f := f5) c21 c49 eE eN; first | (rw [if_pos c150] at t; exact t) | (rw [if_neg (Nat.not_le_of_lt c150)] at t; exact t)) hP hD hS
            · replace c79 : ((nI 48) ≤ (f5 b) ∧ (f5 b) ≤ (nI 57)) := c79
              refine lv_aload_n hx hb dX12_nextToken_82 rfl (lv_at hl 0 rfl) ?_
              refine lv_aload_n hx hb dX12_nextToken_83 rfl (lv_at hl 0 rfl) ?_
              refine va_get (ci := 11) (v := .int (nI b)) (C := RX12) (T := TX12) (N := 24) hx hb hts hinX12 hown hK hP 0 rfl rfl 6 (by decide) hf81 (fun _ h9 => h9) rfl dX12_nextToken_84 ?_
              refine lv_aload_n hx hb dX12_nextToken_87 rfl (lv_at hl 0 rfl) ?_
              refine va_get (ci := 11) (v := .int (nI p)) (C := RX12) (T := TX12) (N := 24) hx hb hts hinX12 hown hK hP 0 rfl rfl 7 (by decide) hf84 (fun _ h9 => h9) rfl dX12_nextToken_88 ?_
              refine suN (k := b - p) hx hb (by omega) dX12_nextToken_91 ?_
              refine lv_iconst (v := nI 2) hx hb dX12_nextToken_92 (by decide) ?_
              refine geN (tgt := 119) hx hb (by omega) (by decide) dX12_nextToken_93 (by decide) (fun c93 => ?_) (fun c93 => ?_)
              · refine lv_aload_n hx hb dX12_nextToken_119 rfl (lv_at hl 0 rfl) ?_
                refine va_get (ci := 11) (v := .int x) (C := RX12) (T := TX12) (N := 24) hx hb hts hinX12 hown hK hP 0 rfl rfl 9 (by decide) hf87 (fun _ h9 => h9) rfl dX12_nextToken_120 ?_
                refine va_put (ci := 11) (v := .int x) (ty := .int) (C := RX12) (T := TX12) (N := 24) hx hb hts hinX12 tyX12 tyX12_ok nmX12 hown hK hP hD hS 0 rfl rfl 9 (by decide) hf87 (fun _ h9 => h9) rfl (by decide +kernel) rfl rfl (Nat.le_of_ble_eq_true rfl) dX12_nextToken_123 (fun H locs hP hD hS => ?_)
                have hP : va_P D vwCl (mW cy h r (upd (upd (upd (upd v 4 (nI L)) 7 (nI p)) 6 (nI b)) 9 x) (va_up A 5 f5)) H := hP
                have hD : va_D A_ (mW cy h r (upd (upd (upd (upd v 4 (nI L)) 7 (nI p)) 6 (nI b)) 9 x) (va_up A 5 f5)) := hD
                refine lv_aload_n hx hb dX12_nextToken_126 rfl (lv_at hl 0 rfl) ?_
                refine lv_dup hx hb dX12_nextToken_127 rfl ?_
                refine va_get (ci := 11) (v := .int (nI b)) (C := RX12) (T := TX12) (N := 24) hx hb hts hinX12 hown hK hP 0 rfl rfl 6 (by decide) hf81 (fun _ h9 => h9) rfl dX12_nextToken_128 ?_
                refine lv_iconst (v := nI 1) hx hb dX12_nextToken_131 (by decide) ?_
                refine adN (k := b + 1) hx hb rfl dX12_nextToken_132 ?_
                refine va_put (ci := 11) (v := .int (nI (b + 1))) (ty := .int) (C := RX12) (T := TX12) (N := 24) hx hb hts hinX12 tyX12 tyX12_ok nmX12 hown hK hP hD hS 0 rfl rfl 6 (by decide) hf81 (fun _ h9 => h9) rfl (by decide +kernel) rfl rfl (Nat.le_of_ble_eq_true rfl) dX12_nextToken_133 (fun H locs hP hD hS => ?_)
                have hP : va_P D vwCl (mW cy h r (upd (upd (upd (upd v 4 (nI L)) 7 (nI p)) 9 x) 6 (nI (b + 1))) (va_up A 5 f5)) H := hP
                have hD : va_D A_ (mW cy h r (upd (upd (upd (upd v 4 (nI L)) 7 (nI p)) 9 x) 6 (nI (b + 1))) (va_up A 5 f5)) := hD
                refine lv_goto (tgt := 52) hx hb dX12_nextToken_136 (by decide) ?_
                exact ih52 (b + 1) x (by omega) (by omega) (by omega) (by rw [eE, runE_at c60 c79]) (by rw [eN, nmE_at c60 c79]; first | (rw [if_pos c93]; done) | (rw [if_neg (Nat.not_lt_of_le c93)]; done)) _ _ hP hD hS ls (lv_sub hl [0] rfl)
              · refine lv_bipush (v := nI 10) hx hb dX12_nextToken_96 (by decide) ?_
                refine lv_aload_n hx hb dX12_nextToken_98 rfl (lv_at hl 0 rfl) ?_
                refine va_get (ci := 11) (v := .int x) (C := RX12) (T := TX12) (N := 24) hx hb hts hinX12 hown hK hP 0 rfl rfl 9 (by decide) hf87 (fun _ h9 => h9) rfl dX12_nextToken_99 ?_
                refine lv_imul hx hb dX12_nextToken_102 ?_
                refine lv_aload_n hx hb dX12_nextToken_103 rfl (lv_at hl 0 rfl) ?_
                refine va_get (ci := 11) (v := .ref (r 5)) (C := RX12) (T := TX12) (N := 24) hx hb hts hinX12 hown hK hP 0 rfl rfl 5 (by decide) hf19 (fun _ h9 => h9) rfl dX12_nextToken_104 ?_
                refine lv_aload_n hx hb dX12_nextToken_107 rfl (lv_at hl 0 rfl) ?_
                refine va_get (ci := 11) (v := .int (nI b)) (C := RX12) (T := TX12) (N := 24) hx hb hts hinX12 hown hK hP 0 rfl rfl 6 (by decide) hf81 (fun _ h9 => h9) rfl dX12_nextToken_108 ?_
                refine ldN (f := f5) hx hb hK hP 4 rfl (j := b) (by omega) (by decide) dX12_nextToken_111 ?_
                refine lv_iadd hx hb dX12_nextToken_112 ?_
                refine lv_bipush (v := nI 48) hx hb dX12_nextToken_113 (by decide) ?_
                refine lv_isub hx hb dX12_nextToken_115 ?_
                refine lv_goto (tgt := 123) hx hb dX12_nextToken_116 (by decide) ?_
                refine va_put (ci := 11) (v := .int (((nI 10 * x) + f5 b) - nI 48)) (ty := .int) (C := RX12) (T := TX12) (N := 24) hx hb hts hinX12 tyX12 tyX12_ok nmX12 hown hK hP hD hS 0 rfl rfl 9 (by decide) hf87 (fun _ h9 => h9) rfl (by decide +kernel) rfl rfl (Nat.le_of_ble_eq_true rfl) dX12_nextToken_123 (fun H locs hP hD hS => ?_)
                have hP : va_P D vwCl (mW cy h r (upd (upd (upd (upd v 4 (nI L)) 7 (nI p)) 6 (nI b)) 9 (((nI 10 * x) + f5 b) - nI 48)) (va_up A 5 f5)) H := hP
                have hD : va_D A_ (mW cy h r (upd (upd (upd (upd v 4 (nI L)) 7 (nI p)) 6 (nI b)) 9 (((nI 10 * x) + f5 b) - nI 48)) (va_up A 5 f5)) := hD
                refine lv_aload_n hx hb dX12_nextToken_126 rfl (lv_at hl 0 rfl) ?_
                refine lv_dup hx hb dX12_nextToken_127 rfl ?_
                refine va_get (ci := 11) (v := .int (nI b)) (C := RX12) (T := TX12) (N := 24) hx hb hts hinX12 hown hK hP 0 rfl rfl 6 (by decide) hf81 (fun _ h9 => h9) rfl dX12_nextToken_128 ?_
                refine lv_iconst (v := nI 1) hx hb dX12_nextToken_131 (by decide) ?_
                refine adN (k := b + 1) hx hb rfl dX12_nextToken_132 ?_
                refine va_put (ci := 11) (v := .int (nI (b + 1))) (ty := .int) (C := RX12) (T := TX12) (N := 24) hx hb hts hinX12 tyX12 tyX12_ok nmX12 hown hK hP hD hS 0 rfl rfl 6 (by decide) hf81 (fun _ h9 => h9) rfl (by decide +kernel) rfl rfl (Nat.le_of_ble_eq_true rfl) dX12_nextToken_133 (fun H locs hP hD hS => ?_)
                have hP : va_P D vwCl (mW cy h r (upd (upd (upd (upd v 4 (nI L)) 7 (nI p)) 9 (((nI 10 * x) + f5 b) - nI 48)) 6 (nI (b + 1))) (va_up A 5 f5)) H := hP
                have hD : va_D A_ (mW cy h r (upd (upd (upd (upd v 4 (nI L)) 7 (nI p)) 9 (((nI 10 * x) + f5 b) - nI 48)) 6 (nI (b + 1))) (va_up A 5 f5)) := hD
                refine lv_goto (tgt := 52) hx hb dX12_nextToken_136 (by decide) ?_
                exact ih52 (b + 1) (((nI 10 * x) + f5 b) - nI 48) (by omega) (by omega) (by omega) (by rw [eE, runE_at c60 c79]) (by rw [eN, nmE_at c60 c79]; first | (rw [if_pos c93]; done) | (rw [if_neg (Nat.not_lt_of_le c93)]; done)) _ _ hP hD hS ls (lv_sub hl [0] rfl)
      exact lp52 (L - p + 1) p (nI 0) (by omega) (by omega) (by omega) rfl rfl _ _ hP hD hS ls (lv_sub hl [1] rfl)
  · refine lv_aload_n hx hb dX12_nextToken_24 rfl (lv_at hl 0 rfl) ?_
    refine lv_bipush (v := (-2)) hx hb dX12_nextToken_25 (by decide) ?_
    refine va_put (ci := 11) (v := .int (-2)) (ty := .int) (C := RX12) (T := TX12) (N := 24) hx hb hts hinX12 tyX12 tyX12_ok nmX12 hown hK hP hD hS 0 rfl rfl 8 (by decide) hf90 (fun _ h9 => h9) rfl (by decide +kernel) rfl rfl (Nat.le_of_ble_eq_true rfl) dX12_nextToken_27 (fun H locs hP hD hS => ?_)
    have hP : va_P D vwCl (mW cy h r (upd (upd (upd (upd (upd v 4 (nI L)) 6 (nI p)) 7 (nI p)) 9 (nI 0)) 8 (-2)) (va_up A 5 f5)) H := hP
    have hD : va_D A_ (mW cy h r (upd (upd (upd (upd (upd v 4 (nI L)) 6 (nI p)) 7 (nI p)) 9 (nI 0)) 8 (-2)) (va_up A 5 f5)) := hD
    exact ret ((nI p), (-2), (nI 0)) _ _ _ _ dX12_nextToken_30 (tok_end c21) hP hD hS
set_option maxHeartbeats 4000000 in
set_option maxRecDepth 100000 in
theorem k_X12_fails (l : Launch) (D : va_G) (cy : Nat → ClassId) (sz : Nat) (h : Nat) (r : Nat → Nat) (v : Nat → Int32) (A : Nat → Nat → Int32) (k : Nat)  : Met l yX12_fails wsX12_fails (rmD 0) (pPre D (TY cy) (mW cy h r v A) sz [.ref h, .int (nI k)]) (pI D (TY cy) (mW cy h r v A) sz (fun _ : Unit => mW cy h r (upd v 10 (nI k)) A) (fun (r_ : Int32) (_ : Unit) => r_ = nI 0)) 0 0 (va_A (mW cy h r v A) sz) := by
  refine ent_z (cc := cX12_fails) (maxL := 2) (by decide +kernel) rfl (Nat.le_of_ble_eq_true rfl) ?_
  intro p_ e_ s_ m_ args_ below_ meth_ c_ A_ Q_ ls B0 ret
  obtain ⟨CF, hA, hKN, hP, hD, hl⟩ := B0
  have hK := hKN.1
  obtain ⟨hx, hb, hml, hown, hts⟩ := id CF
  have hS : va_S A_ s_.heap s_.heap [] := va_S.rf
  have hl : lv_has ls 2 [(0, .ref h), (1, .int (nI k))] := hl
  have hf93 := hts (.fieldLink RX12 93 "DrawerCardsModel" "faultIs" "I") (by decide +kernel)
  have hinX12 := show ∀ w ∈ u_ws RX12 TX12 24, w ∈ wsX12_fails from by decide +kernel
  refine lv_aload_n hx hb dX12_fails_0 rfl (lv_at hl 0 rfl) ?_
  refine lv_iload_n hx hb dX12_fails_1 rfl (lv_at hl 1 rfl) ?_
  refine va_put (ci := 11) (v := .int (nI k)) (ty := .int) (C := RX12) (T := TX12) (N := 24) hx hb hts hinX12 tyX12 tyX12_ok nmX12 hown hK hP hD hS 0 rfl rfl 10 (by decide) hf93 (fun _ h9 => h9) rfl (by decide +kernel) rfl rfl (Nat.le_of_ble_eq_true rfl) dX12_fails_2 (fun H locs hP hD hS => ?_)
  have hP : va_P D vwCl (mW cy h r (upd v 10 (nI k)) A) H := hP
  have hD : va_D A_ (mW cy h r (upd v 10 (nI k)) A) := hD
  refine lv_iconst (v := nI 0) hx hb dX12_fails_5 (by decide) ?_
  exact ret _ () _ _ _ _ dX12_fails_6 rfl rfl hP hD hS
set_option maxHeartbeats 4000000 in
set_option maxRecDepth 100000 in
theorem k_X12_isSign (l : Launch) (D : va_G) (cy : Nat → ClassId) (sz : Nat) (h : Nat) (r : Nat → Nat) (v : Nat → Int32) (A : Nat → Nat → Int32) (f5 : Nat → Int32) (L : Nat) (p : Nat) (k : Int32) (hL : L ≤ 60) (hp : p ≤ L) : Met l yX12_isSign wsX12_isSign (rmD 2) (pPre D (TY cy) (mW cy h r (upd (upd v 4 (nI L)) 6 (nI p)) (va_up A 5 f5)) sz [.ref h, .int k]) (pI D (TY cy) (mW cy h r (upd (upd v 4 (nI L)) 6 (nI p)) (va_up A 5 f5)) sz (fun u : Nat × Int32 => mW cy h r (upd (upd (upd (upd (upd (upd v 4 (nI L)) 7 (nI p)) 6 (nI u.1)) 8 (tokK f5 L p)) 9 (tokN f5 L p)) 10 u.2) (va_up A 5 f5)) (fun (r_ : Int32) (u : Nat × Int32) => r_ = bI (tokK f5 L p = k) ∧ u.1 = tokP f5 L p ∧ u.2 = if tokK f5 L p = k then v 10 else nI 1)) 0 0 (va_A (mW cy h r (upd (upd v 4 (nI L)) 6 (nI p)) (va_up A 5 f5)) sz) := by
  refine ent_z (cc := cX12_isSign) (maxL := 2) (by decide +kernel) rfl (Nat.le_of_ble_eq_true rfl) ?_
  intro p_ e_ s_ m_ args_ below_ meth_ c_ A_ Q_ ls B0 ret
  obtain ⟨CF, hA, hKN, hP, hD, hl⟩ := B0
  have hK := hKN.1
  obtain ⟨hx, hb, hml, hown, hts⟩ := id CF
  have hS : va_S A_ s_.heap s_.heap [] := va_S.rf
  have hl : lv_has ls 2 [(0, .ref h), (1, .int k)] := hl
  have hf90 := hts (.fieldLink RX12 90 "DrawerCardsModel" "token" "I") (by decide +kernel)
  have hinX12 := show ∀ w ∈ u_ws RX12 TX12 24, w ∈ wsX12_isSign from by decide +kernel
  refine lv_aload_n hx hb dX12_isSign_0 rfl (lv_at hl 0 rfl) ?_
  refine call_v (wr := []) (ws' := (fun u1 : Int32 × Int32 × Int32 => mW cy h r (upd (upd (upd (upd (upd v 4 (nI L)) 7 (nI p)) 6 u1.1) 8 u1.2.1) 9 u1.2.2) (va_up A 5 f5))) (va_runV (As := []) (rest := []) CF (k_X12_nextToken l D cy _ h r v A f5 L p (by first | assumption | omega | decide) (by repeat (first | assumption | exact Nat.zero_le _ | apply tokP_le))) (cwV 0 hts gX12_isSign_X12_nextToken rfl rfl rfl (by decide +kernel) ⟨Nat.le_of_ble_eq_true rfl, Nat.le_of_ble_eq_true rfl⟩) (pre_V hKN hP hD [0, 1, 2, 3, 4, 5, 6, 7, 8, 9, 10, 11, 12, 13, 14] rfl (by decide) 0 11 rfl rfl) rfl rfl hl.1 rfl (lv_room (Nat.le_of_ble_eq_true rfl)) dX12_isSign_1 ⟨Nat.le_of_ble_eq_true rfl, Nat.le_of_ble_eq_true rfl⟩) hS hA hP hD [0, 1, 2, 3, 4, 5, 6, 7, 8, 9, 10, 11, 12, 13, 14] [] [0, 1, 2, 3, 4, 5, 6, 7, 8, 9, 10, 11, 12, 13, 14] rfl rfl (by decide) (by decide) (fun _ => rfl) (by decide) (fun u1 H locs hw3 hP hD hS => ?_)
  replace hw3 := hw3.symm; subst hw3
  have hP : va_P D vwCl (mW cy h r (upd (upd (upd (upd (upd v 4 (nI L)) 7 (nI p)) 6 (nI (tokP f5 L p))) 8 (tokK f5 L p)) 9 (tokN f5 L p)) (va_up A 5 f5)) H := hP
  have hD : va_D A_ (mW cy h r (upd (upd (upd (upd (upd v 4 (nI L)) 7 (nI p)) 6 (nI (tokP f5 L p))) 8 (tokK f5 L p)) 9 (tokN f5 L p)) (va_up A 5 f5)) := hD
  refine lv_aload_n hx hb dX12_isSign_4 rfl (lv_at hl 0 rfl) ?_
  refine va_get (ci := 11) (v := .int (tokK f5 L p)) (C := RX12) (T := TX12) (N := 24) hx hb hts hinX12 hown hK hP 0 rfl rfl 8 (by decide) hf90 (fun _ h9 => h9) rfl dX12_isSign_5 ?_
  refine lv_iload_n hx hb dX12_isSign_8 rfl (lv_at hl 1 rfl) ?_
  refine lv_icmp_eq (tgt := 20) hx hb dX12_isSign_9 (by decide) (fun c9 => ?_) (fun c9 => ?_)
  · refine lv_iconst (v := nI 1) hx hb dX12_isSign_20 (by decide) ?_
    refine lv_goto (tgt := 25) hx hb dX12_isSign_21 (by decide) ?_
    exact ret _ ((tokP f5 L p), (v 10)) _ _ _ _ dX12_isSign_25 rfl (by first | (rw [bI_t c9, if_pos c9]; exact ⟨rfl, rfl, rfl⟩) | (rw [bI_f c9, if_neg c9]; exact ⟨rfl, rfl, rfl⟩)) hP hD hS
  · refine lv_aload_n hx hb dX12_isSign_12 rfl (lv_at hl 0 rfl) ?_
    refine lv_iconst (v := nI 1) hx hb dX12_isSign_13 (by decide) ?_
    refine call_i (wr := []) (ws' := (fun _ : Unit => mW cy h r (upd (upd (upd (upd (upd (upd v 4 (nI L)) 7 (nI p)) 6 (nI (tokP f5 L p))) 8 (tokK f5 L p)) 9 (tokN f5 L p)) 10 (nI 1)) (va_up A 5 f5))) (va_runV (As := [.int (nI 1)]) (rest := []) CF (k_X12_fails l D cy _ h r (upd (upd (upd (upd (upd v 4 (nI L)) 7 (nI p)) 6 (nI (tokP f5 L p))) 8 (tokK f5 L p)) 9 (tokN f5 L p)) (va_up A 5 f5) 1 ) (cwV 1 hts gX12_isSign_X12_fails rfl rfl rfl (by decide +kernel) ⟨Nat.le_of_ble_eq_true rfl, Nat.le_of_ble_eq_true rfl⟩) (pre_V hKN hP hD [0, 1, 2, 3, 4, 5, 6, 7, 8, 9, 10, 11, 12, 13, 14] rfl (by decide) 0 11 rfl rfl) rfl rfl hl.1 rfl (lv_room (Nat.le_of_ble_eq_true rfl)) dX12_isSign_14 ⟨Nat.le_of_ble_eq_true rfl, Nat.le_of_ble_eq_true rfl⟩) hS hA hP hD [0, 1, 2, 3, 4, 5, 6, 7, 8, 9, 10, 11, 12, 13, 14] [] [0, 1, 2, 3, 4, 5, 6, 7, 8, 9, 10, 11, 12, 13, 14] rfl rfl (by decide) (by decide) (fun _ => rfl) (by decide) (fun r5 u4 H locs hw6 hP hD hS => ?_)
    replace hw6 := hw6.symm; subst hw6
    refine lv_if_eq (tgt := 24) hx hb dX12_isSign_17 (by decide) (fun c17 => ?_) (fun c17 => absurd c17 (by decide))
    refine lv_iconst (v := nI 0) hx hb dX12_isSign_24 (by decide) ?_
    exact ret _ ((tokP f5 L p), (nI 1)) _ _ _ _ dX12_isSign_25 rfl (by first | (rw [bI_t c9, if_pos c9]; exact ⟨rfl, rfl, rfl⟩) | (rw [bI_f c9, if_neg c9]; exact ⟨rfl, rfl, rfl⟩)) hP hD hS
set_option maxHeartbeats 4000000 in
set_option maxRecDepth 100000 in
theorem k_X12_isNumber (l : Launch) (D : va_G) (cy : Nat → ClassId) (sz : Nat) (h : Nat) (r : Nat → Nat) (v : Nat → Int32) (A : Nat → Nat → Int32) (f5 : Nat → Int32) (L : Nat) (p : Nat) (le : Int32) (mo : Int32) (hL : L ≤ 60) (hp : p ≤ L) : Met l yX12_isNumber wsX12_isNumber (rmD 2) (pPre D (TY cy) (mW cy h r (upd (upd v 4 (nI L)) 6 (nI p)) (va_up A 5 f5)) sz [.ref h, .int le, .int mo]) (pI D (TY cy) (mW cy h r (upd (upd v 4 (nI L)) 6 (nI p)) (va_up A 5 f5)) sz (fun u : Nat × Int32 => mW cy h r (upd (upd (upd (upd (upd (upd v 4 (nI L)) 7 (nI p)) 6 (nI u.1)) 8 (tokK f5 L p)) 9 (tokN f5 L p)) 10 u.2) (va_up A 5 f5)) (fun (r_ : Int32) (u : Nat × Int32) => r_ = bI (tokK f5 L p = -1 ∧ le ≤ tokN f5 L p ∧ tokN f5 L p ≤ mo) ∧ u.1 = tokP f5 L p ∧ u.2 = if ¬ tokK f5 L p = -1 then nI 1 else if le ≤ tokN f5 L p ∧ tokN f5 L p ≤ mo then v 10 else nI 2)) 0 0 (va_A (mW cy h r (upd (upd v 4 (nI L)) 6 (nI p)) (va_up A 5 f5)) sz) := by
  refine ent_z (cc := cX12_isNumber) (maxL := 3) (by decide +kernel) rfl (Nat.le_of_ble_eq_true rfl) ?_
  intro p_ e_ s_ m_ args_ below_ meth_ c_ A_ Q_ ls B0 ret
  obtain ⟨CF, hA, hKN, hP, hD, hl⟩ := B0
  have hK := hKN.1
  obtain ⟨hx, hb, hml, hown, hts⟩ := id CF
  have hS : va_S A_ s_.heap s_.heap [] := va_S.rf
  have hl : lv_has ls 3 [(0, .ref h), (1, .int le), (2, .int mo)] := hl
  have hf90 := hts (.fieldLink RX12 90 "DrawerCardsModel" "token" "I") (by decide +kernel)
  have hinX12 := show ∀ w ∈ u_ws RX12 TX12 24, w ∈ wsX12_isNumber from by decide +kernel
  have hf87 := hts (.fieldLink RX12 87 "DrawerCardsModel" "number" "I") (by decide +kernel)
  refine lv_aload_n hx hb dX12_isNumber_0 rfl (lv_at hl 0 rfl) ?_
  refine call_v (wr := []) (ws' := (fun u1 : Int32 × Int32 × Int32 => mW cy h r (upd (upd (upd (upd (upd v 4 (nI L)) 7 (nI p)) 6 u1.1) 8 u1.2.1) 9 u1.2.2) (va_up A 5 f5))) (va_runV (As := []) (rest := []) CF (k_X12_nextToken l D cy _ h r v A f5 L p (by first | assumption | omega | decide) (by repeat (first | assumption | exact Nat.zero_le _ | apply tokP_le))) (cwV 0 hts gX12_isNumber_X12_nextToken rfl rfl rfl (by decide +kernel) ⟨Nat.le_of_ble_eq_true rfl, Nat.le_of_ble_eq_true rfl⟩) (pre_V hKN hP hD [0, 1, 2, 3, 4, 5, 6, 7, 8, 9, 10, 11, 12, 13, 14] rfl (by decide) 0 11 rfl rfl) rfl rfl hl.1 rfl (lv_room (Nat.le_of_ble_eq_true rfl)) dX12_isNumber_1 ⟨Nat.le_of_ble_eq_true rfl, Nat.le_of_ble_eq_true rfl⟩) hS hA hP hD [0, 1, 2, 3, 4, 5, 6, 7, 8, 9, 10, 11, 12, 13, 14] [] [0, 1, 2, 3, 4, 5, 6, 7, 8, 9, 10, 11, 12, 13, 14] rfl rfl (by decide) (by decide) (fun _ => rfl) (by decide) (fun u1 H locs hw3 hP hD hS => ?_)
  replace hw3 := hw3.symm; subst hw3
  have hP : va_P D vwCl (mW cy h r (upd (upd (upd (upd (upd v 4 (nI L)) 7 (nI p)) 6 (nI (tokP f5 L p))) 8 (tokK f5 L p)) 9 (tokN f5 L p)) (va_up A 5 f5)) H := hP
  have hD : va_D A_ (mW cy h r (upd (upd (upd (upd (upd v 4 (nI L)) 7 (nI p)) 6 (nI (tokP f5 L p))) 8 (tokK f5 L p)) 9 (tokN f5 L p)) (va_up A 5 f5)) := hD
  refine lv_aload_n hx hb dX12_isNumber_4 rfl (lv_at hl 0 rfl) ?_
  refine va_get (ci := 11) (v := .int (tokK f5 L p)) (C := RX12) (T := TX12) (N := 24) hx hb hts hinX12 hown hK hP 0 rfl rfl 8 (by decide) hf90 (fun _ h9 => h9) rfl dX12_isNumber_5 ?_
  refine lv_iconst (v := (-1)) hx hb dX12_isNumber_8 (by decide) ?_
  refine lv_icmp_eq (tgt := 18) hx hb dX12_isNumber_9 (by decide) (fun c9 => ?_) (fun c9 => ?_)
  · refine lv_aload_n hx hb dX12_isNumber_18 rfl (lv_at hl 0 rfl) ?_
    refine va_get (ci := 11) (v := .int (tokN f5 L p)) (C := RX12) (T := TX12) (N := 24) hx hb hts hinX12 hown hK hP 0 rfl rfl 9 (by decide) hf87 (fun _ h9 => h9) rfl dX12_isNumber_19 ?_
    refine lv_iload_n hx hb dX12_isNumber_22 rfl (lv_at hl 1 rfl) ?_
    refine lv_iload_n hx hb dX12_isNumber_23 rfl (lv_at hl 2 rfl) ?_
    refine call_i (wr := [(h, .inr (11, mO r (upd (upd (upd (upd (upd v 4 (nI L)) 7 (nI p)) 6 (nI (tokP f5 L p))) 8 (tokK f5 L p)) 9 (tokN f5 L p)))), ((r 0), wInt (cy 0) 8 (A 0)), ((r 1), wInt (cy 0) 8 (A 1)), ((r 2), wInt (cy 0) 320 (A 2)), ((r 5), wInt (cy 0) 60 f5), ((r 12), wInt (cy 0) 37 (A 12)), ((r 13), wInt (cy 0) 37 (A 13)), ((r 14), wInt (cy 0) 37 (A 14)), ((r 15), wInt (cy 0) 37 (A 15)), ((r 16), wInt (cy 0) 74 (A 16)), ((r 17), wInt (cy 1) 2 (A 17)), ((r 18), wInt (cy 0) 888 (A 18)), ((r 20), wInt (cy 0) 16 (A 20)), ((r 22), wInt (cy 0) 16 (A 22)), ((r 23), wInt (cy 0) 24 (A 23))]) (ws' := (fun _ : Unit => mW cy h r (upd (upd (upd (upd (upd v 4 (nI L)) 7 (nI p)) 6 (nI (tokP f5 L p))) 8 (tokK f5 L p)) 9 (tokN f5 L p)) (va_up A 5 f5))) (va_runS (As := [.int (tokN f5 L p), .int le, .int mo]) (rest := []) CF (k_X12_in l D cy _ (tokN f5 L p) le mo ) (va_cwS 3 hts gX12_isNumber_X12_in rfl rfl rfl (by decide +kernel) ⟨Nat.le_of_ble_eq_true rfl, Nat.le_of_ble_eq_true rfl⟩) (pre_S hKN hP hD [] rfl (by decide)) rfl rfl hl.1 rfl (lv_room (Nat.le_of_ble_eq_true rfl)) dX12_isNumber_24 ⟨Nat.le_of_ble_eq_true rfl, Nat.le_of_ble_eq_true rfl⟩) hS hA hP hD [] [0, 1, 2, 3, 4, 5, 6, 7, 8, 9, 10, 11, 12, 13, 14] [0, 1, 2, 3, 4, 5, 6, 7, 8, 9, 10, 11, 12, 13, 14] rfl rfl (by decide) (by decide) (fun _ => rfl) (by decide) (fun r5 u4 H locs hw6 hP hD hS => ?_)
    replace hw6 := hw6.symm; subst hw6
    refine ifneB (tgt := 38) hx hb dX12_isNumber_27 (by decide) (fun c27 => ?_) (fun c27 => ?_)
    · replace c27 : (le ≤ (tokN f5 L p) ∧ (tokN f5 L p) ≤ mo) := c27
      refine lv_iconst (v := nI 1) hx hb dX12_isNumber_38 (by decide) ?_
      refine lv_goto (tgt := 43) hx hb dX12_isNumber_39 (by decide) ?_
      exact ret _ ((tokP f5 L p), (v 10)) _ _ _ _ dX12_isNumber_43 rfl (by first | (rw [bI_t ⟨c9, c27⟩, if_neg (fun z => z c9), if_pos c27]; exact ⟨rfl, rfl, rfl⟩) | (rw [bI_f (fun z => c27 z.2), if_neg (fun z => z c9), if_neg c27]; exact ⟨rfl, rfl, rfl⟩)) hP hD hS
    · replace c27 : ¬ (le ≤ (tokN f5 L p) ∧ (tokN f5 L p) ≤ mo) := c27
      refine lv_aload_n hx hb dX12_isNumber_30 rfl (lv_at hl 0 rfl) ?_
      refine lv_iconst (v := nI 2) hx hb dX12_isNumber_31 (by decide) ?_
      refine call_i (wr := []) (ws' := (fun _ : Unit => mW cy h r (upd (upd (upd (upd (upd (upd v 4 (nI L)) 7 (nI p)) 6 (nI (tokP f5 L p))) 8 (tokK f5 L p)) 9 (tokN f5 L p)) 10 (nI 2)) (va_up A 5 f5))) (va_runV (As := [.int (nI 2)]) (rest := []) CF (k_X12_fails l D cy _ h r (upd (upd (upd (upd (upd v 4 (nI L)) 7 (nI p)) 6 (nI (tokP f5 L p))) 8 (tokK f5 L p)) 9 (tokN f5 L p)) (va_up A 5 f5) 2 ) (cwV 1 hts gX12_isNumber_X12_fails rfl rfl rfl (by decide +kernel) ⟨Nat.le_of_ble_eq_true rfl, Nat.le_of_ble_eq_true rfl⟩) (pre_V hKN hP hD [0, 1, 2, 3, 4, 5, 6, 7, 8, 9, 10, 11, 12, 13, 14] rfl (by decide) 0 11 rfl rfl) rfl rfl hl.1 rfl (lv_room (Nat.le_of_ble_eq_true rfl)) dX12_isNumber_32 ⟨Nat.le_of_ble_eq_true rfl, Nat.le_of_ble_eq_true rfl⟩) hS hA hP hD [0, 1, 2, 3, 4, 5, 6, 7, 8, 9, 10, 11, 12, 13, 14] [] [0, 1, 2, 3, 4, 5, 6, 7, 8, 9, 10, 11, 12, 13, 14] rfl rfl (by decide) (by decide) (fun _ => rfl) (by decide) (fun r8 u7 H locs hw9 hP hD hS => ?_)
      replace hw9 := hw9.symm; subst hw9
      refine lv_if_eq (tgt := 42) hx hb dX12_isNumber_35 (by decide) (fun c35 => ?_) (fun c35 => absurd c35 (by decide))
      refine lv_iconst (v := nI 0) hx hb dX12_isNumber_42 (by decide) ?_
      exact ret _ ((tokP f5 L p), (nI 2)) _ _ _ _ dX12_isNumber_43 rfl (by first | (rw [bI_t ⟨c9, c27⟩, if_neg (fun z => z c9), if_pos c27]; exact ⟨rfl, rfl, rfl⟩) | (rw [bI_f (fun z => c27 z.2), if_neg (fun z => z c9), if_neg c27]; exact ⟨rfl, rfl, rfl⟩)) hP hD hS
  · refine lv_aload_n hx hb dX12_isNumber_12 rfl (lv_at hl 0 rfl) ?_
    refine lv_iconst (v := nI 1) hx hb dX12_isNumber_13 (by decide) ?_
    refine call_i (wr := []) (ws' := (fun _ : Unit => mW cy h r (upd (upd (upd (upd (upd (upd v 4 (nI L)) 7 (nI p)) 6 (nI (tokP f5 L p))) 8 (tokK f5 L p)) 9 (tokN f5 L p)) 10 (nI 1)) (va_up A 5 f5))) (va_runV (As := [.int (nI 1)]) (rest := []) CF (k_X12_fails l D cy _ h r (upd (upd (upd (upd (upd v 4 (nI L)) 7 (nI p)) 6 (nI (tokP f5 L p))) 8 (tokK f5 L p)) 9 (tokN f5 L p)) (va_up A 5 f5) 1 ) (cwV 1 hts gX12_isNumber_X12_fails rfl rfl rfl (by decide +kernel) ⟨Nat.le_of_ble_eq_true rfl, Nat.le_of_ble_eq_true rfl⟩) (pre_V hKN hP hD [0, 1, 2, 3, 4, 5, 6, 7, 8, 9, 10, 11, 12, 13, 14] rfl (by decide) 0 11 rfl rfl) rfl rfl hl.1 rfl (lv_room (Nat.le_of_ble_eq_true rfl)) dX12_isNumber_14 ⟨Nat.le_of_ble_eq_true rfl, Nat.le_of_ble_eq_true rfl⟩) hS hA hP hD [0, 1, 2, 3, 4, 5, 6, 7, 8, 9, 10, 11, 12, 13, 14] [] [0, 1, 2, 3, 4, 5, 6, 7, 8, 9, 10, 11, 12, 13, 14] rfl rfl (by decide) (by decide) (fun _ => rfl) (by decide) (fun r11 u10 H locs hw12 hP hD hS => ?_)
    replace hw12 := hw12.symm; subst hw12
    exact ret _ ((tokP f5 L p), (nI 1)) _ _ _ _ dX12_isNumber_17 rfl (by rw [bI_f (fun z => c9 z.1), if_pos c9]; exact ⟨rfl, rfl, rfl⟩) hP hD hS
set_option maxHeartbeats 4000000 in
set_option maxRecDepth 100000 in
theorem k_X12_sortBy (l : Launch) (D : va_G) (cy : Nat → ClassId) (sz : Nat) (x : Int32)  : Met l yX12_sortBy wsX12_sortBy (rmD 0) (pPre D (TY cy) ([]) sz [.int x]) (pI D (TY cy) ([]) sz (fun _ : Unit => []) (fun (r_ : Int32) (_ : Unit) => r_ = srtF x)) 0 0 (va_A ([]) sz) := by
  refine ent_i (cc := cX12_sortBy) (maxL := 1) (by decide +kernel) rfl (Nat.le_of_ble_eq_true rfl) ?_
  intro p_ e_ s_ m_ args_ below_ meth_ c_ A_ Q_ ls B0 ret
  obtain ⟨CF, hA, hKN, hP, hD, hl⟩ := B0
  have hK := hKN.1
  obtain ⟨hx, hb, hml, hown, hts⟩ := id CF
  have hS : va_S A_ s_.heap s_.heap [] := va_S.rf
  have hl : lv_has ls 1 [(0, .int x)] := hl
  refine lv_iload_n hx hb dX12_sortBy_0 rfl (lv_at hl 0 rfl) ?_
  refine lv_bipush (v := nI 102) hx hb dX12_sortBy_1 (by decide) ?_
  refine lv_icmp_ne (tgt := 10) hx hb dX12_sortBy_3 (by decide) (fun c3 => ?_) (fun c3 => ?_)
  · refine lv_iload_n hx hb dX12_sortBy_10 rfl (lv_at hl 0 rfl) ?_
    refine lv_bipush (v := nI 111) hx hb dX12_sortBy_11 (by decide) ?_
    refine lv_icmp_ne (tgt := 20) hx hb dX12_sortBy_13 (by decide) (fun c13 => ?_) (fun c13 => ?_)
    · refine lv_iload_n hx hb dX12_sortBy_20 rfl (lv_at hl 0 rfl) ?_
      refine lv_bipush (v := nI 119) hx hb dX12_sortBy_21 (by decide) ?_
      refine lv_icmp_ne (tgt := 30) hx hb dX12_sortBy_23 (by decide) (fun c23 => ?_) (fun c23 => ?_)
      · refine lv_iload_n hx hb dX12_sortBy_30 rfl (lv_at hl 0 rfl) ?_
        refine lv_bipush (v := nI 114) hx hb dX12_sortBy_31 (by decide) ?_
        refine lv_icmp_ne (tgt := 40) hx hb dX12_sortBy_33 (by decide) (fun c33 => ?_) (fun c33 => ?_)
        · refine lv_iload_n hx hb dX12_sortBy_40 rfl (lv_at hl 0 rfl) ?_
          refine lv_bipush (v := nI 98) hx hb dX12_sortBy_41 (by decide) ?_
          refine lv_icmp_ne (tgt := 50) hx hb dX12_sortBy_43 (by decide) (fun c43 => ?_) (fun c43 => ?_)
          · refine lv_iconst (v := nI 0) hx hb dX12_sortBy_50 (by decide) ?_
            exact ret _ () _ _ _ _ dX12_sortBy_51 (by simp (decide := true) [srtF, c3, c13, c23, c33, c43]) hP hD hS
          · refine lv_iconst (v := nI 5) hx hb dX12_sortBy_46 (by decide) ?_
            refine lv_goto (tgt := 51) hx hb dX12_sortBy_47 (by decide) ?_
            exact ret _ () _ _ _ _ dX12_sortBy_51 (by simp (decide := true) [srtF, c3, c13, c23, c33, c43]) hP hD hS
        · refine lv_iconst (v := nI 4) hx hb dX12_sortBy_36 (by decide) ?_
          refine lv_goto (tgt := 51) hx hb dX12_sortBy_37 (by decide) ?_
          exact ret _ () _ _ _ _ dX12_sortBy_51 (by simp (decide := true) [srtF, c3, c13, c23, c33]) hP hD hS
      · refine lv_iconst (v := nI 3) hx hb dX12_sortBy_26 (by decide) ?_
        refine lv_goto (tgt := 51) hx hb dX12_sortBy_27 (by decide) ?_
        exact ret _ () _ _ _ _ dX12_sortBy_51 (by simp (decide := true) [srtF, c3, c13, c23]) hP hD hS
    · refine lv_iconst (v := nI 2) hx hb dX12_sortBy_16 (by decide) ?_
      refine lv_goto (tgt := 51) hx hb dX12_sortBy_17 (by decide) ?_
      exact ret _ () _ _ _ _ dX12_sortBy_51 (by simp (decide := true) [srtF, c3, c13]) hP hD hS
  · refine lv_iconst (v := nI 1) hx hb dX12_sortBy_6 (by decide) ?_
    refine lv_goto (tgt := 51) hx hb dX12_sortBy_7 (by decide) ?_
    exact ret _ () _ _ _ _ dX12_sortBy_51 (by simp (decide := true) [srtF, c3]) hP hD hS
