set_option maxHeartbeats 4000000 in
set_option maxRecDepth 100000 in
theorem k_X12_begins (l : Launch) (D : va_G) (cy : Nat → ClassId) (sz : Nat) (h : Nat) (r : Nat → Nat) (v : Nat → Int32) (A : Nat → Nat → Int32) (b : Nat) (t : Nat) (f : Nat → Int32) (ht16 : t ≤ 16) : Met l yX12_begins wsX12_begins (rmD 0) (pPre D (TY cy) (mW cy h r (upd v 21 (nI t)) (va_up A 20 f)) sz [.ref h, .int (nI b)]) (pV D (TY cy) (mW cy h r (upd v 21 (nI t)) (va_up A 20 f)) sz (fun u : Int32 × (Nat → Int32) => mW cy h r (upd v 21 u.1) (va_up A 20 u.2)) (fun (u : Int32 × (Nat → Int32)) => u = (nI ((tr1 (t, f) b).1), (tr1 (t, f) b).2))) 0 0 (va_A (mW cy h r (upd v 21 (nI t)) (va_up A 20 f)) sz) := by
  refine ent_v (cc := cX12_begins) (maxL := 2) (by decide +kernel) rfl (Nat.le_of_ble_eq_true rfl) ?_
  intro p_ e_ s_ m_ args_ below_ meth_ c_ A_ Q_ ls B0 ret
  obtain ⟨CF, hA, hKN, hP, hD, hl⟩ := B0
  have hK := hKN.1
  obtain ⟨hx, hb, hml, hown, hts⟩ := id CF
  have hS : va_S A_ s_.heap s_.heap [] := va_S.rf
  have hl : lv_has ls 2 [(0, .ref h), (1, .int (nI b))] := hl
  have hf224 := hts (.fieldLink RX12 224 "DrawerCardsModel" "traceMany" "I") (by decide +kernel)
  have hinX12 := show ∀ w ∈ u_ws RX12 TX12 24, w ∈ wsX12_begins from by decide +kernel
  have hf44 := hts (.fieldLink RX12 44 "DrawerCardsModel" "trace" "[I") (by decide +kernel)
  refine lv_aload_n hx hb dX12_begins_0 rfl (lv_at hl 0 rfl) ?_
  refine va_get (ci := 11) (v := .int (nI t)) (C := RX12) (T := TX12) (N := 24) hx hb hts hinX12 hown hK hP 0 rfl rfl 21 (by decide) hf224 (fun _ h9 => h9) rfl dX12_begins_1 ?_
  refine lv_bipush (v := nI 16) hx hb dX12_begins_4 (by decide) ?_
  refine geN (tgt := 29) hx hb (by omega) (by decide) dX12_begins_6 (by decide) (fun c6 => ?_) (fun c6 => ?_)
  · exact ret ((nI t), f) _ _ _ _ dX12_begins_29 (by simp [tr1, c6, Nat.not_lt_of_le c6]) hP hD hS
  · refine lv_aload_n hx hb dX12_begins_9 rfl (lv_at hl 0 rfl) ?_
    refine va_get (ci := 11) (v := .ref (r 20)) (C := RX12) (T := TX12) (N := 24) hx hb hts hinX12 hown hK hP 0 rfl rfl 20 (by decide) hf44 (fun _ h9 => h9) rfl dX12_begins_10 ?_
    refine lv_aload_n hx hb dX12_begins_13 rfl (lv_at hl 0 rfl) ?_
    refine va_get (ci := 11) (v := .int (nI t)) (C := RX12) (T := TX12) (N := 24) hx hb hts hinX12 hown hK hP 0 rfl rfl 21 (by decide) hf224 (fun _ h9 => h9) rfl dX12_begins_14 ?_
    refine lv_iload_n hx hb dX12_begins_17 rfl (lv_at hl 1 rfl) ?_
    refine stN (f := f) (ws' := mW cy h r (upd v 21 (nI t)) (va_up A 20 (upd f t (nI b)))) hx hb hK hP hD hS 12 rfl (j := t) (by omega) (by decide) dX12_begins_18 rfl (fun H locs hP hD hS => ?_)
    refine lv_aload_n hx hb dX12_begins_19 rfl (lv_at hl 0 rfl) ?_
    refine lv_dup hx hb dX12_begins_20 rfl ?_
    refine va_get (ci := 11) (v := .int (nI t)) (C := RX12) (T := TX12) (N := 24) hx hb hts hinX12 hown hK hP 0 rfl rfl 21 (by decide) hf224 (fun _ h9 => h9) rfl dX12_begins_21 ?_
    refine lv_iconst (v := nI 1) hx hb dX12_begins_24 (by decide) ?_
    refine adN (k := t + 1) hx hb rfl dX12_begins_25 ?_
    refine va_put (ci := 11) (v := .int (nI (t + 1))) (ty := .int) (C := RX12) (T := TX12) (N := 24) hx hb hts hinX12 tyX12 tyX12_ok nmX12 hown hK hP hD hS 0 rfl rfl 21 (by decide) hf224 (fun _ h9 => h9) rfl (by decide +kernel) rfl rfl (Nat.le_of_ble_eq_true rfl) dX12_begins_26 (fun H locs hP hD hS => ?_)
    have hP : va_P D vwCl (mW cy h r (upd v 21 (nI (t + 1))) (va_up A 20 (upd f t (nI b)))) H := hP
    have hD : va_D A_ (mW cy h r (upd v 21 (nI (t + 1))) (va_up A 20 (upd f t (nI b)))) := hD
    exact ret ((nI (t + 1)), (upd f t (nI b))) _ _ _ _ dX12_begins_29 (by simp [tr1, c6, Nat.not_le_of_lt c6]) hP hD hS
set_option maxHeartbeats 4000000 in
set_option maxRecDepth 100000 in
theorem k_X12_markFree (l : Launch) (D : va_G) (cy : Nat → ClassId) (sz : Nat) (h : Nat) (r : Nat → Nat) (v : Nat → Int32) (A : Nat → Nat → Int32) (n : Nat) (c : Nat) (t : Nat) (f : Nat → Int32) (hn : n ≤ 8) (hc : c < n) (ht16 : t ≤ 16) : Met l yX12_markFree wsX12_markFree (rmD 1) (pPre D (TY cy) (mW cy h r (upd v 21 (nI t)) (va_up A 20 f)) sz [.ref h, .int (nI c)]) (pI D (TY cy) (mW cy h r (upd v 21 (nI t)) (va_up A 20 f)) sz (fun u : Int32 × (Nat → Int32) => mW cy h r (upd v 21 u.1) (va_up A 20 u.2)) (fun (r_ : Int32) (u : Int32 × (Nat → Int32)) => r_ = (nI c + A 12 (29 + c)) ∧ u = (nI ((trs (t, f) [21, 20]).1), (trs (t, f) [21, 20]).2))) 0 0 (va_A (mW cy h r (upd v 21 (nI t)) (va_up A 20 f)) sz) := by
  refine ent_i (cc := cX12_markFree) (maxL := 2) (by decide +kernel) rfl (Nat.le_of_ble_eq_true rfl) ?_
  intro p_ e_ s_ m_ args_ below_ meth_ c_ A_ Q_ ls B0 ret
  obtain ⟨CF, hA, hKN, hP, hD, hl⟩ := B0
  have hK := hKN.1
  obtain ⟨hx, hb, hml, hown, hts⟩ := id CF
  have hS : va_S A_ s_.heap s_.heap [] := va_S.rf
  have hl : lv_has ls 2 [(0, .ref h), (1, .int (nI c))] := hl
  have hf22 := hts (.fieldLink RX12 22 "DrawerCardsModel" "now" "[I") (by decide +kernel)
  have hinX12 := show ∀ w ∈ u_ws RX12 TX12 24, w ∈ wsX12_markFree from by decide +kernel
  refine lv_aload_n hx hb dX12_markFree_0 rfl (lv_at hl 0 rfl) ?_
  refine lv_bipush (v := nI 21) hx hb dX12_markFree_1 (by decide) ?_
  refine call_v (wr := []) (ws' := (fun u1 : Int32 × (Nat → Int32) => mW cy h r (upd v 21 u1.1) (va_up A 20 u1.2))) (va_runV (As := [.int (nI 21)]) (rest := []) CF (k_X12_begins l D cy _ h r v A 21 t f (by repeat (first | assumption | omega | apply tr1_le | apply trs_le))) (cwV 1 hts gX12_markFree_X12_begins rfl rfl rfl (by decide +kernel) ⟨Nat.le_of_ble_eq_true rfl, Nat.le_of_ble_eq_true rfl⟩) (pre_V hKN hP hD [0, 1, 2, 3, 4, 5, 6, 7, 8, 9, 10, 11, 12, 13, 14] rfl (by decide) 0 11 rfl rfl) rfl rfl hl.1 rfl (lv_room (Nat.le_of_ble_eq_true rfl)) dX12_markFree_3 ⟨Nat.le_of_ble_eq_true rfl, Nat.le_of_ble_eq_true rfl⟩) hS hA hP hD [0, 1, 2, 3, 4, 5, 6, 7, 8, 9, 10, 11, 12, 13, 14] [] [0, 1, 2, 3, 4, 5, 6, 7, 8, 9, 10, 11, 12, 13, 14] rfl rfl (by decide) (by decide) (fun _ => rfl) (by decide) (fun u1 H locs hw3 hP hD hS => ?_)
  replace hw3 := hw3.symm; subst hw3
  have hP : va_P D vwCl (mW cy h r (upd v 21 (nI ((tr1 (t, f) 21).1))) (va_up A 20 ((tr1 (t, f) 21).2))) H := hP
  have hD : va_D A_ (mW cy h r (upd v 21 (nI ((tr1 (t, f) 21).1))) (va_up A 20 ((tr1 (t, f) 21).2))) := hD
  refine lv_aload_n hx hb dX12_markFree_6 rfl (lv_at hl 0 rfl) ?_
  refine lv_bipush (v := nI 20) hx hb dX12_markFree_7 (by decide) ?_
  refine call_v (wr := []) (ws' := (fun u4 : Int32 × (Nat → Int32) => mW cy h r (upd v 21 u4.1) (va_up A 20 u4.2))) (va_runV (As := [.int (nI 20)]) (rest := []) CF (k_X12_begins l D cy _ h r v A 20 ((tr1 (t, f) 21).1) ((tr1 (t, f) 21).2) (by repeat (first | assumption | omega | apply tr1_le | apply trs_le))) (cwV 1 hts gX12_markFree_X12_begins rfl rfl rfl (by decide +kernel) ⟨Nat.le_of_ble_eq_true rfl, Nat.le_of_ble_eq_true rfl⟩) (pre_V hKN hP hD [0, 1, 2, 3, 4, 5, 6, 7, 8, 9, 10, 11, 12, 13, 14] rfl (by decide) 0 11 rfl rfl) rfl rfl hl.1 rfl (lv_room (Nat.le_of_ble_eq_true rfl)) dX12_markFree_9 ⟨Nat.le_of_ble_eq_true rfl, Nat.le_of_ble_eq_true rfl⟩) hS hA hP hD [0, 1, 2, 3, 4, 5, 6, 7, 8, 9, 10, 11, 12, 13, 14] [] [0, 1, 2, 3, 4, 5, 6, 7, 8, 9, 10, 11, 12, 13, 14] rfl rfl (by decide) (by decide) (fun _ => rfl) (by decide) (fun u4 H locs hw6 hP hD hS => ?_)
  replace hw6 := hw6.symm; subst hw6
  have hP : va_P D vwCl (mW cy h r (upd v 21 (nI ((tr1 (((tr1 (t, f) 21).1), ((tr1 (t, f) 21).2)) 20).1))) (va_up A 20 ((tr1 (((tr1 (t, f) 21).1), ((tr1 (t, f) 21).2)) 20).2))) H := hP
  have hD : va_D A_ (mW cy h r (upd v 21 (nI ((tr1 (((tr1 (t, f) 21).1), ((tr1 (t, f) 21).2)) 20).1))) (va_up A 20 ((tr1 (((tr1 (t, f) 21).1), ((tr1 (t, f) 21).2)) 20).2))) := hD
  refine lv_iload_n hx hb dX12_markFree_12 rfl (lv_at hl 1 rfl) ?_
  refine lv_aload_n hx hb dX12_markFree_13 rfl (lv_at hl 0 rfl) ?_
  refine va_get (ci := 11) (v := .ref (r 12)) (C := RX12) (T := TX12) (N := 24) hx hb hts hinX12 hown hK hP 0 rfl rfl 12 (by decide) hf22 (fun _ h9 => h9) rfl dX12_markFree_14 ?_
  refine lv_bipush (v := nI 29) hx hb dX12_markFree_17 (by decide) ?_
  refine lv_iload_n hx hb dX12_markFree_19 rfl (lv_at hl 1 rfl) ?_
  refine adN (k := 29 + c) hx hb rfl dX12_markFree_20 ?_
  refine ldN (f := (A 12)) hx hb hK hP 5 rfl (j := 29 + c) (by omega) (by decide) dX12_markFree_21 ?_
  refine lv_iadd hx hb dX12_markFree_22 ?_
  exact ret _ ((nI ((tr1 (((tr1 (t, f) 21).1), ((tr1 (t, f) 21).2)) 20).1)), ((tr1 (((tr1 (t, f) 21).1), ((tr1 (t, f) 21).2)) 20).2)) _ _ _ _ dX12_markFree_23 ⟨rfl, rfl⟩ hP hD hS
set_option maxHeartbeats 4000000 in
set_option maxRecDepth 100000 in
theorem k_X12_markNew (l : Launch) (D : va_G) (cy : Nat → ClassId) (sz : Nat) (h : Nat) (r : Nat → Nat) (v : Nat → Int32) (A : Nat → Nat → Int32) (n : Nat) (c : Nat) (t : Nat) (f : Nat → Int32) (hn : n ≤ 8) (hc : c < n) (ht16 : t ≤ 16) : Met l yX12_markNew wsX12_markNew (rmD 2) (pPre D (TY cy) (mW cy h r (upd v 21 (nI t)) (va_up A 20 f)) sz [.ref h, .int (nI c)]) (pI D (TY cy) (mW cy h r (upd v 21 (nI t)) (va_up A 20 f)) sz (fun u : Int32 × (Nat → Int32) => mW cy h r (upd v 21 u.1) (va_up A 20 u.2)) (fun (r_ : Int32) (u : Int32 × (Nat → Int32)) => r_ = (mkNewV (A 12) c) ∧ u = (nI ((trs (t, f) (mkNewT (A 12) c)).1), (trs (t, f) (mkNewT (A 12) c)).2))) 0 0 (va_A (mW cy h r (upd v 21 (nI t)) (va_up A 20 f)) sz) := by
  refine ent_i (cc := cX12_markNew) (maxL := 3) (by decide +kernel) rfl (Nat.le_of_ble_eq_true rfl) ?_
  intro p_ e_ s_ m_ args_ below_ meth_ c_ A_ Q_ ls B0 ret
  obtain ⟨CF, hA, hKN, hP, hD, hl⟩ := B0
  have hK := hKN.1
  obtain ⟨hx, hb, hml, hown, hts⟩ := id CF
  have hS : va_S A_ s_.heap s_.heap [] := va_S.rf
  have hl : lv_has ls 3 [(0, .ref h), (1, .int (nI c))] := hl
  have hf22 := hts (.fieldLink RX12 22 "DrawerCardsModel" "now" "[I") (by decide +kernel)
  have hinX12 := show ∀ w ∈ u_ws RX12 TX12 24, w ∈ wsX12_markNew from by decide +kernel
  refine lv_aload_n hx hb dX12_markNew_0 rfl (lv_at hl 0 rfl) ?_
  refine va_get (ci := 11) (v := .ref (r 12)) (C := RX12) (T := TX12) (N := 24) hx hb hts hinX12 hown hK hP 0 rfl rfl 12 (by decide) hf22 (fun _ h9 => h9) rfl dX12_markNew_1 ?_
  refine lv_iconst (v := nI 5) hx hb dX12_markNew_4 (by decide) ?_
  refine lv_iload_n hx hb dX12_markNew_5 rfl (lv_at hl 1 rfl) ?_
  refine adN (k := 5 + c) hx hb rfl dX12_markNew_6 ?_
  refine ldN (f := (A 12)) hx hb hK hP 5 rfl (j := 5 + c) (by omega) (by decide) dX12_markNew_7 ?_
  refine lv_istore_n (lv' := [(2, .int ((A 12) (5 + c))), (0, .ref h), (1, .int (nI c))]) hx hb dX12_markNew_8 rfl hl (by decide) rfl (fun ls hl => ?_)
  refine lv_iload_n hx hb dX12_markNew_9 rfl (lv_at hl 0 rfl) ?_
  refine lv_iconst (v := nI 2) hx hb dX12_markNew_10 (by decide) ?_
  refine lv_icmp_ne (tgt := 28) hx hb dX12_markNew_11 (by decide) (fun c11 => ?_) (fun c11 => ?_)
  · refine lv_iload_n hx hb dX12_markNew_28 rfl (lv_at hl 0 rfl) ?_
    refine lv_iconst (v := nI 3) hx hb dX12_markNew_29 (by decide) ?_
    refine lv_icmp_ne (tgt := 49) hx hb dX12_markNew_30 (by decide) (fun c30 => ?_) (fun c30 => ?_)
    · refine lv_aload_n hx hb dX12_markNew_49 rfl (lv_at hl 1 rfl) ?_
      refine lv_iload_n hx hb dX12_markNew_50 rfl (lv_at hl 2 rfl) ?_
      refine call_i (wr := []) (ws' := (fun u1 : Int32 × (Nat → Int32) => mW cy h r (upd v 21 u1.1) (va_up A 20 u1.2))) (va_runV (As := [.int (nI c)]) (rest := []) CF (k_X12_markFree l D cy _ h r v A n c t f (by first | assumption | omega | decide) (by first | assumption | omega | decide) (by repeat (first | assumption | omega | apply tr1_le | apply trs_le))) (cwV 1 hts gX12_markNew_X12_markFree rfl rfl rfl (by decide +kernel) ⟨Nat.le_of_ble_eq_true rfl, Nat.le_of_ble_eq_true rfl⟩) (pre_V hKN hP hD [0, 1, 2, 3, 4, 5, 6, 7, 8, 9, 10, 11, 12, 13, 14] rfl (by decide) 0 11 rfl rfl) rfl rfl hl.1 rfl (lv_room (Nat.le_of_ble_eq_true rfl)) dX12_markNew_51 ⟨Nat.le_of_ble_eq_true rfl, Nat.le_of_ble_eq_true rfl⟩) hS hA hP hD [0, 1, 2, 3, 4, 5, 6, 7, 8, 9, 10, 11, 12, 13, 14] [] [0, 1, 2, 3, 4, 5, 6, 7, 8, 9, 10, 11, 12, 13, 14] rfl rfl (by decide) (by decide) (fun _ => rfl) (by decide) (fun r2 u1 H locs hw3 hP hD hS => ?_)
      obtain ⟨hw3a, hw3b⟩ := hw3
      replace hw3a := hw3a.symm; subst hw3a
      replace hw3b := hw3b.symm; subst hw3b
      have hP : va_P D vwCl (mW cy h r (upd v 21 (nI ((trs (t, f) [21, 20]).1))) (va_up A 20 ((trs (t, f) [21, 20]).2))) H := hP
      have hD : va_D A_ (mW cy h r (upd v 21 (nI ((trs (t, f) [21, 20]).1))) (va_up A 20 ((trs (t, f) [21, 20]).2))) := hD
      exact ret _ ((nI ((trs (t, f) [21, 20]).1)), ((trs (t, f) [21, 20]).2)) _ _ _ _ dX12_markNew_54 (by simp (decide := true) [mkNewT, mkNewV, trs, c11, c30]) hP hD hS
    · refine lv_aload_n hx hb dX12_markNew_33 rfl (lv_at hl 1 rfl) ?_
      refine lv_bipush (v := nI 22) hx hb dX12_markNew_34 (by decide) ?_
      refine call_v (wr := []) (ws' := (fun u4 : Int32 × (Nat → Int32) => mW cy h r (upd v 21 u4.1) (va_up A 20 u4.2))) (va_runV (As := [.int (nI 22)]) (rest := []) CF (k_X12_begins l D cy _ h r v A 22 t f (by repeat (first | assumption | omega | apply tr1_le | apply trs_le))) (cwV 1 hts gX12_markNew_X12_begins rfl rfl rfl (by decide +kernel) ⟨Nat.le_of_ble_eq_true rfl, Nat.le_of_ble_eq_true rfl⟩) (pre_V hKN hP hD [0, 1, 2, 3, 4, 5, 6, 7, 8, 9, 10, 11, 12, 13, 14] rfl (by decide) 0 11 rfl rfl) rfl rfl hl.1 rfl (lv_room (Nat.le_of_ble_eq_true rfl)) dX12_markNew_36 ⟨Nat.le_of_ble_eq_true rfl, Nat.le_of_ble_eq_true rfl⟩) hS hA hP hD [0, 1, 2, 3, 4, 5, 6, 7, 8, 9, 10, 11, 12, 13, 14] [] [0, 1, 2, 3, 4, 5, 6, 7, 8, 9, 10, 11, 12, 13, 14] rfl rfl (by decide) (by decide) (fun _ => rfl) (by decide) (fun u4 H locs hw6 hP hD hS => ?_)
      replace hw6 := hw6.symm; subst hw6
      have hP : va_P D vwCl (mW cy h r (upd v 21 (nI ((tr1 (t, f) 22).1))) (va_up A 20 ((tr1 (t, f) 22).2))) H := hP
      have hD : va_D A_ (mW cy h r (upd v 21 (nI ((tr1 (t, f) 22).1))) (va_up A 20 ((tr1 (t, f) 22).2))) := hD
      refine lv_aload_n hx hb dX12_markNew_39 rfl (lv_at hl 1 rfl) ?_
      refine lv_iload_n hx hb dX12_markNew_40 rfl (lv_at hl 2 rfl) ?_
      refine call_i (wr := []) (ws' := (fun u7 : Int32 × (Nat → Int32) => mW cy h r (upd v 21 u7.1) (va_up A 20 u7.2))) (va_runV (As := [.int (nI c)]) (rest := []) CF (k_X12_markFree l D cy _ h r v A n c ((tr1 (t, f) 22).1) ((tr1 (t, f) 22).2) (by first | assumption | omega | decide) (by first | assumption | omega | decide) (by repeat (first | assumption | omega | apply tr1_le | apply trs_le))) (cwV 1 hts gX12_markNew_X12_markFree rfl rfl rfl (by decide +kernel) ⟨Nat.le_of_ble_eq_true rfl, Nat.le_of_ble_eq_true rfl⟩) (pre_V hKN hP hD [0, 1, 2, 3, 4, 5, 6, 7, 8, 9, 10, 11, 12, 13, 14] rfl (by decide) 0 11 rfl rfl) rfl rfl hl.1 rfl (lv_room (Nat.le_of_ble_eq_true rfl)) dX12_markNew_41 ⟨Nat.le_of_ble_eq_true rfl, Nat.le_of_ble_eq_true rfl⟩) hS hA hP hD [0, 1, 2, 3, 4, 5, 6, 7, 8, 9, 10, 11, 12, 13, 14] [] [0, 1, 2, 3, 4, 5, 6, 7, 8, 9, 10, 11, 12, 13, 14] rfl rfl (by decide) (by decide) (fun _ => rfl) (by decide) (fun r8 u7 H locs hw9 hP hD hS => ?_)
      obtain ⟨hw9a, hw9b⟩ := hw9
      replace hw9a := hw9a.symm; subst hw9a
      replace hw9b := hw9b.symm; subst hw9b
      have hP : va_P D vwCl (mW cy h r (upd v 21 (nI ((trs (((tr1 (t, f) 22).1), ((tr1 (t, f) 22).2)) [21, 20]).1))) (va_up A 20 ((trs (((tr1 (t, f) 22).1), ((tr1 (t, f) 22).2)) [21, 20]).2))) H := hP
      have hD : va_D A_ (mW cy h r (upd v 21 (nI ((trs (((tr1 (t, f) 22).1), ((tr1 (t, f) 22).2)) [21, 20]).1))) (va_up A 20 ((trs (((tr1 (t, f) 22).1), ((tr1 (t, f) 22).2)) [21, 20]).2))) := hD
      refine lv_sipush (v := nI 1000) hx hb dX12_markNew_44 (by decide) ?_
      refine lv_isub hx hb dX12_markNew_47 ?_
      exact ret _ ((nI ((trs (((tr1 (t, f) 22).1), ((tr1 (t, f) 22).2)) [21, 20]).1)), ((trs (((tr1 (t, f) 22).1), ((tr1 (t, f) 22).2)) [21, 20]).2)) _ _ _ _ dX12_markNew_48 (by simp (decide := true) [mkNewT, mkNewV, trs, c11, c30]) hP hD hS
  · refine lv_aload_n hx hb dX12_markNew_14 rfl (lv_at hl 1 rfl) ?_
    refine lv_bipush (v := nI 24) hx hb dX12_markNew_15 (by decide) ?_
    refine call_v (wr := []) (ws' := (fun u10 : Int32 × (Nat → Int32) => mW cy h r (upd v 21 u10.1) (va_up A 20 u10.2))) (va_runV (As := [.int (nI 24)]) (rest := []) CF (k_X12_begins l D cy _ h r v A 24 t f (by repeat (first | assumption | omega | apply tr1_le | apply trs_le))) (cwV 1 hts gX12_markNew_X12_begins rfl rfl rfl (by decide +kernel) ⟨Nat.le_of_ble_eq_true rfl, Nat.le_of_ble_eq_true rfl⟩) (pre_V hKN hP hD [0, 1, 2, 3, 4, 5, 6, 7, 8, 9, 10, 11, 12, 13, 14] rfl (by decide) 0 11 rfl rfl) rfl rfl hl.1 rfl (lv_room (Nat.le_of_ble_eq_true rfl)) dX12_markNew_17 ⟨Nat.le_of_ble_eq_true rfl, Nat.le_of_ble_eq_true rfl⟩) hS hA hP hD [0, 1, 2, 3, 4, 5, 6, 7, 8, 9, 10, 11, 12, 13, 14] [] [0, 1, 2, 3, 4, 5, 6, 7, 8, 9, 10, 11, 12, 13, 14] rfl rfl (by decide) (by decide) (fun _ => rfl) (by decide) (fun u10 H locs hw12 hP hD hS => ?_)
    replace hw12 := hw12.symm; subst hw12
    have hP : va_P D vwCl (mW cy h r (upd v 21 (nI ((tr1 (t, f) 24).1))) (va_up A 20 ((tr1 (t, f) 24).2))) H := hP
    have hD : va_D A_ (mW cy h r (upd v 21 (nI ((tr1 (t, f) 24).1))) (va_up A 20 ((tr1 (t, f) 24).2))) := hD
    refine lv_iconst (v := nI 2) hx hb dX12_markNew_20 (by decide) ?_
    refine lv_aload_n hx hb dX12_markNew_21 rfl (lv_at hl 1 rfl) ?_
    refine lv_iload_n hx hb dX12_markNew_22 rfl (lv_at hl 2 rfl) ?_
    refine call_i (wr := []) (ws' := (fun u13 : Int32 × (Nat → Int32) => mW cy h r (upd v 21 u13.1) (va_up A 20 u13.2))) (va_runV (As := [.int (nI c)]) (rest := [.int (nI 2)]) CF (k_X12_markFree l D cy _ h r v A n c ((tr1 (t, f) 24).1) ((tr1 (t, f) 24).2) (by first | assumption | omega | decide) (by first | assumption | omega | decide) (by repeat (first | assumption | omega | apply tr1_le | apply trs_le))) (cwV 1 hts gX12_markNew_X12_markFree rfl rfl rfl (by decide +kernel) ⟨Nat.le_of_ble_eq_true rfl, Nat.le_of_ble_eq_true rfl⟩) (pre_V hKN hP hD [0, 1, 2, 3, 4, 5, 6, 7, 8, 9, 10, 11, 12, 13, 14] rfl (by decide) 0 11 rfl rfl) rfl rfl hl.1 rfl (lv_room (Nat.le_of_ble_eq_true rfl)) dX12_markNew_23 ⟨Nat.le_of_ble_eq_true rfl, Nat.le_of_ble_eq_true rfl⟩) hS hA hP hD [0, 1, 2, 3, 4, 5, 6, 7, 8, 9, 10, 11, 12, 13, 14] [] [0, 1, 2, 3, 4, 5, 6, 7, 8, 9, 10, 11, 12, 13, 14] rfl rfl (by decide) (by decide) (fun _ => rfl) (by decide) (fun r14 u13 H locs hw15 hP hD hS => ?_)
    obtain ⟨hw15a, hw15b⟩ := hw15
    replace hw15a := hw15a.symm; subst hw15a
    replace hw15b := hw15b.symm; subst hw15b
    have hP : va_P D vwCl (mW cy h r (upd v 21 (nI ((trs (((tr1 (t, f) 24).1), ((tr1 (t, f) 24).2)) [21, 20]).1))) (va_up A 20 ((trs (((tr1 (t, f) 24).1), ((tr1 (t, f) 24).2)) [21, 20]).2))) H := hP
    have hD : va_D A_ (mW cy h r (upd v 21 (nI ((trs (((tr1 (t, f) 24).1), ((tr1 (t, f) 24).2)) [21, 20]).1))) (va_up A 20 ((trs (((tr1 (t, f) 24).1), ((tr1 (t, f) 24).2)) [21, 20]).2))) := hD
    refine lv_imul hx hb dX12_markNew_26 ?_
    exact ret _ ((nI ((trs (((tr1 (t, f) 24).1), ((tr1 (t, f) 24).2)) [21, 20]).1)), ((trs (((tr1 (t, f) 24).1), ((tr1 (t, f) 24).2)) [21, 20]).2)) _ _ _ _ dX12_markNew_27 (by simp (decide := true) [mkNewT, mkNewV, trs, c11]) hP hD hS
set_option maxHeartbeats 4000000 in
set_option maxRecDepth 100000 in
theorem k_X12_sizeRod (l : Launch) (D : va_G) (cy : Nat → ClassId) (sz : Nat) (h : Nat) (r : Nat → Nat) (v : Nat → Int32) (A : Nat → Nat → Int32) (n : Nat) (c : Nat) (t : Nat) (f : Nat → Int32) (hn : n ≤ 8) (hc : c < n) (ht16 : t ≤ 16) : Met l yX12_sizeRod wsX12_sizeRod (rmD 1) (pPre D (TY cy) (mW cy h r (upd v 21 (nI t)) (va_up A 20 f)) sz [.ref h, .int (nI c)]) (pI D (TY cy) (mW cy h r (upd v 21 (nI t)) (va_up A 20 f)) sz (fun u : Int32 × (Nat → Int32) => mW cy h r (upd v 21 u.1) (va_up A 20 u.2)) (fun (r_ : Int32) (u : Int32 × (Nat → Int32)) => r_ = (A 12 (13 + c) - nI 100) ∧ u = (nI ((trs (t, f) [13, 10]).1), (trs (t, f) [13, 10]).2))) 0 0 (va_A (mW cy h r (upd v 21 (nI t)) (va_up A 20 f)) sz) := by
  refine ent_i (cc := cX12_sizeRod) (maxL := 2) (by decide +kernel) rfl (Nat.le_of_ble_eq_true rfl) ?_
  intro p_ e_ s_ m_ args_ below_ meth_ c_ A_ Q_ ls B0 ret
  obtain ⟨CF, hA, hKN, hP, hD, hl⟩ := B0
  have hK := hKN.1
  obtain ⟨hx, hb, hml, hown, hts⟩ := id CF
  have hS : va_S A_ s_.heap s_.heap [] := va_S.rf
  have hl : lv_has ls 2 [(0, .ref h), (1, .int (nI c))] := hl
  have hf22 := hts (.fieldLink RX12 22 "DrawerCardsModel" "now" "[I") (by decide +kernel)
  have hinX12 := show ∀ w ∈ u_ws RX12 TX12 24, w ∈ wsX12_sizeRod from by decide +kernel
  refine lv_aload_n hx hb dX12_sizeRod_0 rfl (lv_at hl 0 rfl) ?_
  refine lv_bipush (v := nI 13) hx hb dX12_sizeRod_1 (by decide) ?_
  refine call_v (wr := []) (ws' := (fun u1 : Int32 × (Nat → Int32) => mW cy h r (upd v 21 u1.1) (va_up A 20 u1.2))) (va_runV (As := [.int (nI 13)]) (rest := []) CF (k_X12_begins l D cy _ h r v A 13 t f (by repeat (first | assumption | omega | apply tr1_le | apply trs_le))) (cwV 1 hts gX12_sizeRod_X12_begins rfl rfl rfl (by decide +kernel) ⟨Nat.le_of_ble_eq_true rfl, Nat.le_of_ble_eq_true rfl⟩) (pre_V hKN hP hD [0, 1, 2, 3, 4, 5, 6, 7, 8, 9, 10, 11, 12, 13, 14] rfl (by decide) 0 11 rfl rfl) rfl rfl hl.1 rfl (lv_room (Nat.le_of_ble_eq_true rfl)) dX12_sizeRod_3 ⟨Nat.le_of_ble_eq_true rfl, Nat.le_of_ble_eq_true rfl⟩) hS hA hP hD [0, 1, 2, 3, 4, 5, 6, 7, 8, 9, 10, 11, 12, 13, 14] [] [0, 1, 2, 3, 4, 5, 6, 7, 8, 9, 10, 11, 12, 13, 14] rfl rfl (by decide) (by decide) (fun _ => rfl) (by decide) (fun u1 H locs hw3 hP hD hS => ?_)
  replace hw3 := hw3.symm; subst hw3
  have hP : va_P D vwCl (mW cy h r (upd v 21 (nI ((tr1 (t, f) 13).1))) (va_up A 20 ((tr1 (t, f) 13).2))) H := hP
  have hD : va_D A_ (mW cy h r (upd v 21 (nI ((tr1 (t, f) 13).1))) (va_up A 20 ((tr1 (t, f) 13).2))) := hD
  refine lv_aload_n hx hb dX12_sizeRod_6 rfl (lv_at hl 0 rfl) ?_
  refine lv_bipush (v := nI 10) hx hb dX12_sizeRod_7 (by decide) ?_
  refine call_v (wr := []) (ws' := (fun u4 : Int32 × (Nat → Int32) => mW cy h r (upd v 21 u4.1) (va_up A 20 u4.2))) (va_runV (As := [.int (nI 10)]) (rest := []) CF (k_X12_begins l D cy _ h r v A 10 ((tr1 (t, f) 13).1) ((tr1 (t, f) 13).2) (by repeat (first | assumption | omega | apply tr1_le | apply trs_le))) (cwV 1 hts gX12_sizeRod_X12_begins rfl rfl rfl (by decide +kernel) ⟨Nat.le_of_ble_eq_true rfl, Nat.le_of_ble_eq_true rfl⟩) (pre_V hKN hP hD [0, 1, 2, 3, 4, 5, 6, 7, 8, 9, 10, 11, 12, 13, 14] rfl (by decide) 0 11 rfl rfl) rfl rfl hl.1 rfl (lv_room (Nat.le_of_ble_eq_true rfl)) dX12_sizeRod_9 ⟨Nat.le_of_ble_eq_true rfl, Nat.le_of_ble_eq_true rfl⟩) hS hA hP hD [0, 1, 2, 3, 4, 5, 6, 7, 8, 9, 10, 11, 12, 13, 14] [] [0, 1, 2, 3, 4, 5, 6, 7, 8, 9, 10, 11, 12, 13, 14] rfl rfl (by decide) (by decide) (fun _ => rfl) (by decide) (fun u4 H locs hw6 hP hD hS => ?_)
  replace hw6 := hw6.symm; subst hw6
  have hP : va_P D vwCl (mW cy h r (upd v 21 (nI ((tr1 (((tr1 (t, f) 13).1), ((tr1 (t, f) 13).2)) 10).1))) (va_up A 20 ((tr1 (((tr1 (t, f) 13).1), ((tr1 (t, f) 13).2)) 10).2))) H := hP
  have hD : va_D A_ (mW cy h r (upd v 21 (nI ((tr1 (((tr1 (t, f) 13).1), ((tr1 (t, f) 13).2)) 10).1))) (va_up A 20 ((tr1 (((tr1 (t, f) 13).1), ((tr1 (t, f) 13).2)) 10).2))) := hD
  refine lv_aload_n hx hb dX12_sizeRod_12 rfl (lv_at hl 0 rfl) ?_
  refine va_get (ci := 11) (v := .ref (r 12)) (C := RX12) (T := TX12) (N := 24) hx hb hts hinX12 hown hK hP 0 rfl rfl 12 (by decide) hf22 (fun _ h9 => h9) rfl dX12_sizeRod_13 ?_
  refine lv_bipush (v := nI 13) hx hb dX12_sizeRod_16 (by decide) ?_
  refine lv_iload_n hx hb dX12_sizeRod_18 rfl (lv_at hl 1 rfl) ?_
  refine adN (k := 13 + c) hx hb rfl dX12_sizeRod_19 ?_
  refine ldN (f := (A 12)) hx hb hK hP 5 rfl (j := 13 + c) (by omega) (by decide) dX12_sizeRod_20 ?_
  refine lv_bipush (v := nI 100) hx hb dX12_sizeRod_21 (by decide) ?_
  refine lv_isub hx hb dX12_sizeRod_23 ?_
  exact ret _ ((nI ((tr1 (((tr1 (t, f) 13).1), ((tr1 (t, f) 13).2)) 10).1)), ((tr1 (((tr1 (t, f) 13).1), ((tr1 (t, f) 13).2)) 10).2)) _ _ _ _ dX12_sizeRod_24 ⟨rfl, rfl⟩ hP hD hS
set_option maxHeartbeats 4000000 in
set_option maxRecDepth 100000 in
theorem k_X12_sizeOf (l : Launch) (D : va_G) (cy : Nat → ClassId) (sz : Nat) (h : Nat) (r : Nat → Nat) (v : Nat → Int32) (A : Nat → Nat → Int32) (n : Nat) (c : Nat) (t : Nat) (f : Nat → Int32) (hn : n ≤ 8) (hc : c < n) (ht16 : t ≤ 16) : Met l yX12_sizeOf wsX12_sizeOf (rmD 3) (pPre D (TY cy) (mW cy h r (upd v 21 (nI t)) (va_up A 20 f)) sz [.ref h, .int (nI c)]) (pI D (TY cy) (mW cy h r (upd v 21 (nI t)) (va_up A 20 f)) sz (fun u : Int32 × (Nat → Int32) => mW cy h r (upd v 21 u.1) (va_up A 20 u.2)) (fun (r_ : Int32) (u : Int32 × (Nat → Int32)) => r_ = (szV (A 12) c) ∧ u = (nI ((trs (t, f) (szT (A 12) c)).1), (trs (t, f) (szT (A 12) c)).2))) 0 0 (va_A (mW cy h r (upd v 21 (nI t)) (va_up A 20 f)) sz) := by
  refine ent_i (cc := cX12_sizeOf) (maxL := 4) (by decide +kernel) rfl (Nat.le_of_ble_eq_true rfl) ?_
  intro p_ e_ s_ m_ args_ below_ meth_ c_ A_ Q_ ls B0 ret
  obtain ⟨CF, hA, hKN, hP, hD, hl⟩ := B0
  have hK := hKN.1
  obtain ⟨hx, hb, hml, hown, hts⟩ := id CF
  have hS : va_S A_ s_.heap s_.heap [] := va_S.rf
  have hl : lv_has ls 4 [(0, .ref h), (1, .int (nI c))] := hl
  have hf22 := hts (.fieldLink RX12 22 "DrawerCardsModel" "now" "[I") (by decide +kernel)
  have hinX12 := show ∀ w ∈ u_ws RX12 TX12 24, w ∈ wsX12_sizeOf from by decide +kernel
  refine lv_aload_n hx hb dX12_sizeOf_0 rfl (lv_at hl 0 rfl) ?_
  refine va_get (ci := 11) (v := .ref (r 12)) (C := RX12) (T := TX12) (N := 24) hx hb hts hinX12 hown hK hP 0 rfl rfl 12 (by decide) hf22 (fun _ h9 => h9) rfl dX12_sizeOf_1 ?_
  refine lv_iconst (v := nI 5) hx hb dX12_sizeOf_4 (by decide) ?_
  refine lv_iload_n hx hb dX12_sizeOf_5 rfl (lv_at hl 1 rfl) ?_
  refine adN (k := 5 + c) hx hb rfl dX12_sizeOf_6 ?_
  refine ldN (f := (A 12)) hx hb hK hP 5 rfl (j := 5 + c) (by omega) (by decide) dX12_sizeOf_7 ?_
  refine lv_istore_n (lv' := [(2, .int ((A 12) (5 + c))), (0, .ref h), (1, .int (nI c))]) hx hb dX12_sizeOf_8 rfl hl (by decide) rfl (fun ls hl => ?_)
  refine lv_iload_n hx hb dX12_sizeOf_9 rfl (lv_at hl 0 rfl) ?_
  refine lv_iconst (v := nI 5) hx hb dX12_sizeOf_10 (by decide) ?_
  refine lv_icmp_ne (tgt := 28) hx hb dX12_sizeOf_11 (by decide) (fun c11 => ?_) (fun c11 => ?_)
  · refine lv_iload_n hx hb dX12_sizeOf_28 rfl (lv_at hl 0 rfl) ?_
    refine lv_iconst (v := nI 4) hx hb dX12_sizeOf_29 (by decide) ?_
    refine lv_icmp_ne (tgt := 39) hx hb dX12_sizeOf_30 (by decide) (fun c30 => ?_) (fun c30 => ?_)
    · refine lv_iload_n hx hb dX12_sizeOf_39 rfl (lv_at hl 0 rfl) ?_
      refine lv_iconst (v := nI 2) hx hb dX12_sizeOf_40 (by decide) ?_
      refine lv_icmp_ne (tgt := 50) hx hb dX12_sizeOf_41 (by decide) (fun c41 => ?_) (fun c41 => ?_)
      · refine lv_aload_n hx hb dX12_sizeOf_50 rfl (lv_at hl 1 rfl) ?_
        refine lv_bipush (v := nI 11) hx hb dX12_sizeOf_51 (by decide) ?_
        refine call_v (wr := []) (ws' := (fun u1 : Int32 × (Nat → Int32) => mW cy h r (upd v 21 u1.1) (va_up A 20 u1.2))) (va_runV (As := [.int (nI 11)]) (rest := []) CF (k_X12_begins l D cy _ h r v A 11 t f (by repeat (first | assumption | omega | apply tr1_le | apply trs_le))) (cwV 1 hts gX12_sizeOf_X12_begins rfl rfl rfl (by decide +kernel) ⟨Nat.le_of_ble_eq_true rfl, Nat.le_of_ble_eq_true rfl⟩) (pre_V hKN hP hD [0, 1, 2, 3, 4, 5, 6, 7, 8, 9, 10, 11, 12, 13, 14] rfl (by decide) 0 11 rfl rfl) rfl rfl hl.1 rfl (lv_room (Nat.le_of_ble_eq_true rfl)) dX12_sizeOf_53 ⟨Nat.le_of_ble_eq_true rfl, Nat.le_of_ble_eq_true rfl⟩) hS hA hP hD [0, 1, 2, 3, 4, 5, 6, 7, 8, 9, 10, 11, 12, 13, 14] [] [0, 1, 2, 3, 4, 5, 6, 7, 8, 9, 10, 11, 12, 13, 14] rfl rfl (by decide) (by decide) (fun _ => rfl) (by decide) (fun u1 H locs hw3 hP hD hS => ?_)
        replace hw3 := hw3.symm; subst hw3
        have hP : va_P D vwCl (mW cy h r (upd v 21 (nI ((tr1 (t, f) 11).1))) (va_up A 20 ((tr1 (t, f) 11).2))) H := hP
        have hD : va_D A_ (mW cy h r (upd v 21 (nI ((tr1 (t, f) 11).1))) (va_up A 20 ((tr1 (t, f) 11).2))) := hD
        refine lv_aload_n hx hb dX12_sizeOf_56 rfl (lv_at hl 1 rfl) ?_
        refine lv_bipush (v := nI 10) hx hb dX12_sizeOf_57 (by decide) ?_
        refine call_v (wr := []) (ws' := (fun u4 : Int32 × (Nat → Int32) => mW cy h r (upd v 21 u4.1) (va_up A 20 u4.2))) (va_runV (As := [.int (nI 10)]) (rest := []) CF (k_X12_begins l D cy _ h r v A 10 ((tr1 (t, f) 11).1) ((tr1 (t, f) 11).2) (by repeat (first | assumption | omega | apply tr1_le | apply trs_le))) (cwV 1 hts gX12_sizeOf_X12_begins rfl rfl rfl (by decide +kernel) ⟨Nat.le_of_ble_eq_true rfl, Nat.le_of_ble_eq_true rfl⟩) (pre_V hKN hP hD [0, 1, 2, 3, 4, 5, 6, 7, 8, 9, 10, 11, 12, 13, 14] rfl (by decide) 0 11 rfl rfl) rfl rfl hl.1 rfl (lv_room (Nat.le_of_ble_eq_true rfl)) dX12_sizeOf_59 ⟨Nat.le_of_ble_eq_true rfl, Nat.le_of_ble_eq_true rfl⟩) hS hA hP hD [0, 1, 2, 3, 4, 5, 6, 7, 8, 9, 10, 11, 12, 13, 14] [] [0, 1, 2, 3, 4, 5, 6, 7, 8, 9, 10, 11, 12, 13, 14] rfl rfl (by decide) (by decide) (fun _ => rfl) (by decide) (fun u4 H locs hw6 hP hD hS => ?_)
        replace hw6 := hw6.symm; subst hw6
        have hP : va_P D vwCl (mW cy h r (upd v 21 (nI ((tr1 (((tr1 (t, f) 11).1), ((tr1 (t, f) 11).2)) 10).1))) (va_up A 20 ((tr1 (((tr1 (t, f) 11).1), ((tr1 (t, f) 11).2)) 10).2))) H := hP
        have hD : va_D A_ (mW cy h r (upd v 21 (nI ((tr1 (((tr1 (t, f) 11).1), ((tr1 (t, f) 11).2)) 10).1))) (va_up A 20 ((tr1 (((tr1 (t, f) 11).1), ((tr1 (t, f) 11).2)) 10).2))) := hD
        refine lv_aload_n hx hb dX12_sizeOf_62 rfl (lv_at hl 1 rfl) ?_
        refine va_get (ci := 11) (v := .ref (r 12)) (C := RX12) (T := TX12) (N := 24) hx hb hts hinX12 hown hK hP 0 rfl rfl 12 (by decide) hf22 (fun _ h9 => h9) rfl dX12_sizeOf_63 ?_
        refine lv_bipush (v := nI 13) hx hb dX12_sizeOf_66 (by decide) ?_
        refine lv_iload_n hx hb dX12_sizeOf_68 rfl (lv_at hl 2 rfl) ?_
        refine adN (k := 13 + c) hx hb rfl dX12_sizeOf_69 ?_
        refine ldN (f := (A 12)) hx hb hK hP 5 rfl (j := 13 + c) (by omega) (by decide) dX12_sizeOf_70 ?_
        refine lv_aload_n hx hb dX12_sizeOf_71 rfl (lv_at hl 1 rfl) ?_
        refine lv_iload_n hx hb dX12_sizeOf_72 rfl (lv_at hl 2 rfl) ?_
        refine call_i (wr := []) (ws' := (fun u7 : Int32 × (Nat → Int32) => mW cy h r (upd v 21 u7.1) (va_up A 20 u7.2))) (va_runV (As := [.int (nI c)]) (rest := [.int ((A 12) (13 + c))]) CF (k_X12_markNew l D cy _ h r v A n c ((tr1 (((tr1 (t, f) 11).1), ((tr1 (t, f) 11).2)) 10).1) ((tr1 (((tr1 (t, f) 11).1), ((tr1 (t, f) 11).2)) 10).2) (by first | assumption | omega | decide) (by first | assumption | omega | decide) (by repeat (first | assumption | omega | apply tr1_le | apply trs_le))) (cwV 1 hts gX12_sizeOf_X12_markNew rfl rfl rfl (by decide +kernel) ⟨Nat.le_of_ble_eq_true rfl, Nat.le_of_ble_eq_true rfl⟩) (pre_V hKN hP hD [0, 1, 2, 3, 4, 5, 6, 7, 8, 9, 10, 11, 12, 13, 14] rfl (by decide) 0 11 rfl rfl) rfl rfl hl.1 rfl (lv_room (Nat.le_of_ble_eq_true rfl)) dX12_sizeOf_73 ⟨Nat.le_of_ble_eq_true rfl, Nat.le_of_ble_eq_true rfl⟩) hS hA hP hD [0, 1, 2, 3, 4, 5, 6, 7, 8, 9, 10, 11, 12, 13, 14] [] [0, 1, 2, 3, 4, 5, 6, 7, 8, 9, 10, 11, 12, 13, 14] rfl rfl (by decide) (by decide) (fun _ => rfl) (by decide) (fun r8 u7 H locs hw9 hP hD hS => ?_)
        obtain ⟨hw9a, hw9b⟩ := hw9
        replace hw9a := hw9a.symm; subst hw9a
        replace hw9b := hw9b.symm; subst hw9b
        have hP : va_P D vwCl (mW cy h r (upd v 21 (nI ((trs (((tr1 (((tr1 (t, f) 11).1), ((tr1 (t, f) 11).2)) 10).1), ((tr1 (((tr1 (t, f) 11).1), ((tr1 (t, f) 11).2)) 10).2)) (mkNewT ((A 12)) c)).1))) (va_up A 20 ((trs (((tr1 (((tr1 (t, f) 11).1), ((tr1 (t, f) 11).2)) 10).1), ((tr1 (((tr1 (t, f) 11).1), ((tr1 (t, f) 11).2)) 10).2)) (mkNewT ((A 12)) c)).2))) H := hP
        have hD : va_D A_ (mW cy h r (upd v 21 (nI ((trs (((tr1 (((tr1 (t, f) 11).1), ((tr1 (t, f) 11).2)) 10).1), ((tr1 (((tr1 (t, f) 11).1), ((tr1 (t, f) 11).2)) 10).2)) (mkNewT ((A 12)) c)).1))) (va_up A 20 ((trs (((tr1 (((tr1 (t, f) 11).1), ((tr1 (t, f) 11).2)) 10).1), ((tr1 (((tr1 (t, f) 11).1), ((tr1 (t, f) 11).2)) 10).2)) (mkNewT ((A 12)) c)).2))) := hD
        refine lv_iadd hx hb dX12_sizeOf_76 ?_
        refine lv_istore_n (lv' := [(3, .int ((A 12) (13 + c) + mkNewV ((A 12)) c)), (2, .int ((A 12) (5 + c))), (0, .ref h), (1, .int (nI c))]) hx hb dX12_sizeOf_77 rfl hl (by decide) rfl (fun ls hl => ?_)
        refine lv_iload_n hx hb dX12_sizeOf_78 rfl (lv_at hl 1 rfl) ?_
        refine lv_iconst (v := nI 2) hx hb dX12_sizeOf_79 (by decide) ?_
        refine lv_icmp_ne (tgt := 88) hx hb dX12_sizeOf_80 (by decide) (fun c80 => ?_) (fun c80 => ?_)
        · refine lv_iload_n hx hb dX12_sizeOf_88 rfl (lv_at hl 0 rfl) ?_
          exact ret _ ((nI ((trs (((tr1 (((tr1 (t, f) 11).1), ((tr1 (t, f) 11).2)) 10).1), ((tr1 (((tr1 (t, f) 11).1), ((tr1 (t, f) 11).2)) 10).2)) (mkNewT ((A 12)) c)).1)), ((trs (((tr1 (((tr1 (t, f) 11).1), ((tr1 (t, f) 11).2)) 10).1), ((tr1 (((tr1 (t, f) 11).1), ((tr1 (t, f) 11).2)) 10).2)) (mkNewT ((A 12)) c)).2)) _ _ _ _ dX12_sizeOf_89 (by first | exact absurd c80 c41 | exact absurd c41 c80 | (simp (decide := true) [szT, szV, trs, c11, c30, c41, c80]; done)) hP hD hS
        · refine lv_iload_n hx hb dX12_sizeOf_83 rfl (lv_at hl 0 rfl) ?_
          refine lv_ineg hx hb dX12_sizeOf_84 ?_
          refine lv_goto (tgt := 89) hx hb dX12_sizeOf_85 (by decide) ?_
          exact ret _ ((nI ((trs (((tr1 (((tr1 (t, f) 11).1), ((tr1 (t, f) 11).2)) 10).1), ((tr1 (((tr1 (t, f) 11).1), ((tr1 (t, f) 11).2)) 10).2)) (mkNewT ((A 12)) c)).1)), ((trs (((tr1 (((tr1 (t, f) 11).1), ((tr1 (t, f) 11).2)) 10).1), ((tr1 (((tr1 (t, f) 11).1), ((tr1 (t, f) 11).2)) 10).2)) (mkNewT ((A 12)) c)).2)) _ _ _ _ dX12_sizeOf_89 (by first | exact absurd c80 c41 | exact absurd c41 c80 | (simp (decide := true) [szT, szV, trs, c11, c30, c41, c80]; done)) hP hD hS
      · refine lv_aload_n hx hb dX12_sizeOf_44 rfl (lv_at hl 1 rfl) ?_
        refine lv_bipush (v := nI 12) hx hb dX12_sizeOf_45 (by decide) ?_
        refine call_v (wr := []) (ws' := (fun u10 : Int32 × (Nat → Int32) => mW cy h r (upd v 21 u10.1) (va_up A 20 u10.2))) (va_runV (As := [.int (nI 12)]) (rest := []) CF (k_X12_begins l D cy _ h r v A 12 t f (by repeat (first | assumption | omega | apply tr1_le | apply trs_le))) (cwV 1 hts gX12_sizeOf_X12_begins rfl rfl rfl (by decide +kernel) ⟨Nat.le_of_ble_eq_true rfl, Nat.le_of_ble_eq_true rfl⟩) (pre_V hKN hP hD [0, 1, 2, 3, 4, 5, 6, 7, 8, 9, 10, 11, 12, 13, 14] rfl (by decide) 0 11 rfl rfl) rfl rfl hl.1 rfl (lv_room (Nat.le_of_ble_eq_true rfl)) dX12_sizeOf_47 ⟨Nat.le_of_ble_eq_true rfl, Nat.le_of_ble_eq_true rfl⟩) hS hA hP hD [0, 1, 2, 3, 4, 5, 6, 7, 8, 9, 10, 11, 12, 13, 14] [] [0, 1, 2, 3, 4, 5, 6, 7, 8, 9, 10, 11, 12, 13, 14] rfl rfl (by decide) (by decide) (fun _ => rfl) (by decide) (fun u10 H locs hw12 hP hD hS => ?_)
        replace hw12 := hw12.symm; subst hw12
        have hP : va_P D vwCl (mW cy h r (upd v 21 (nI ((tr1 (t, f) 12).1))) (va_up A 20 ((tr1 (t, f) 12).2))) H := hP
        have hD : va_D A_ (mW cy h r (upd v 21 (nI ((tr1 (t, f) 12).1))) (va_up A 20 ((tr1 (t, f) 12).2))) := hD
        refine lv_aload_n hx hb dX12_sizeOf_50 rfl (lv_at hl 1 rfl) ?_
        refine lv_bipush (v := nI 11) hx hb dX12_sizeOf_51 (by decide) ?_
        refine call_v (wr := []) (ws' := (fun u13 : Int32 × (Nat → Int32) => mW cy h r (upd v 21 u13.1) (va_up A 20 u13.2))) (va_runV (As := [.int (nI 11)]) (rest := []) CF (k_X12_begins l D cy _ h r v A 11 ((tr1 (t, f) 12).1) ((tr1 (t, f) 12).2) (by repeat (first | assumption | omega | apply tr1_le | apply trs_le))) (cwV 1 hts gX12_sizeOf_X12_begins rfl rfl rfl (by decide +kernel) ⟨Nat.le_of_ble_eq_true rfl, Nat.le_of_ble_eq_true rfl⟩) (pre_V hKN hP hD [0, 1, 2, 3, 4, 5, 6, 7, 8, 9, 10, 11, 12, 13, 14] rfl (by decide) 0 11 rfl rfl) rfl rfl hl.1 rfl (lv_room (Nat.le_of_ble_eq_true rfl)) dX12_sizeOf_53 ⟨Nat.le_of_ble_eq_true rfl, Nat.le_of_ble_eq_true rfl⟩) hS hA hP hD [0, 1, 2, 3, 4, 5, 6, 7, 8, 9, 10, 11, 12, 13, 14] [] [0, 1, 2, 3, 4, 5, 6, 7, 8, 9, 10, 11, 12, 13, 14] rfl rfl (by decide) (by decide) (fun _ => rfl) (by decide) (fun u13 H locs hw15 hP hD hS => ?_)
        replace hw15 := hw15.symm; subst hw15
        have hP : va_P D vwCl (mW cy h r (upd v 21 (nI ((tr1 (((tr1 (t, f) 12).1), ((tr1 (t, f) 12).2)) 11).1))) (va_up A 20 ((tr1 (((tr1 (t, f) 12).1), ((tr1 (t, f) 12).2)) 11).2))) H := hP
        have hD : va_D A_ (mW cy h r (upd v 21 (nI ((tr1 (((tr1 (t, f) 12).1), ((tr1 (t, f) 12).2)) 11).1))) (va_up A 20 ((tr1 (((tr1 (t, f) 12).1), ((tr1 (t, f) 12).2)) 11).2))) := hD
        refine lv_aload_n hx hb dX12_sizeOf_56 rfl (lv_at hl 1 rfl) ?_
        refine lv_bipush (v := nI 10) hx hb dX12_sizeOf_57 (by decide) ?_
        refine call_v (wr := []) (ws' := (fun u16 : Int32 × (Nat → Int32) => mW cy h r (upd v 21 u16.1) (va_up A 20 u16.2))) (va_runV (As := [.int (nI 10)]) (rest := []) CF (k_X12_begins l D cy _ h r v A 10 ((tr1 (((tr1 (t, f) 12).1), ((tr1 (t, f) 12).2)) 11).1) ((tr1 (((tr1 (t, f) 12).1), ((tr1 (t, f) 12).2)) 11).2) (by repeat (first | assumption | omega | apply tr1_le | apply trs_le))) (cwV 1 hts gX12_sizeOf_X12_begins rfl rfl rfl (by decide +kernel) ⟨Nat.le_of_ble_eq_true rfl, Nat.le_of_ble_eq_true rfl⟩) (pre_V hKN hP hD [0, 1, 2, 3, 4, 5, 6, 7, 8, 9, 10, 11, 12, 13, 14] rfl (by decide) 0 11 rfl rfl) rfl rfl hl.1 rfl (lv_room (Nat.le_of_ble_eq_true rfl)) dX12_sizeOf_59 ⟨Nat.le_of_ble_eq_true rfl, Nat.le_of_ble_eq_true rfl⟩) hS hA hP hD [0, 1, 2, 3, 4, 5, 6, 7, 8, 9, 10, 11, 12, 13, 14] [] [0, 1, 2, 3, 4, 5, 6, 7, 8, 9, 10, 11, 12, 13, 14] rfl rfl (by decide) (by decide) (fun _ => rfl) (by decide) (fun u16 H locs hw18 hP hD hS => ?_)
        replace hw18 := hw18.symm; subst hw18
        have hP : va_P D vwCl (mW cy h r (upd v 21 (nI ((tr1 (((tr1 (((tr1 (t, f) 12).1), ((tr1 (t, f) 12).2)) 11).1), ((tr1 (((tr1 (t, f) 12).1), ((tr1 (t, f) 12).2)) 11).2)) 10).1))) (va_up A 20 ((tr1 (((tr1 (((tr1 (t, f) 12).1), ((tr1 (t, f) 12).2)) 11).1), ((tr1 (((tr1 (t, f) 12).1), ((tr1 (t, f) 12).2)) 11).2)) 10).2))) H := hP
        have hD : va_D A_ (mW cy h r (upd v 21 (nI ((tr1 (((tr1 (((tr1 (t, f) 12).1), ((tr1 (t, f) 12).2)) 11).1), ((tr1 (((tr1 (t, f) 12).1), ((tr1 (t, f) 12).2)) 11).2)) 10).1))) (va_up A 20 ((tr1 (((tr1 (((tr1 (t, f) 12).1), ((tr1 (t, f) 12).2)) 11).1), ((tr1 (((tr1 (t, f) 12).1), ((tr1 (t, f) 12).2)) 11).2)) 10).2))) := hD
        refine lv_aload_n hx hb dX12_sizeOf_62 rfl (lv_at hl 1 rfl) ?_
        refine va_get (ci := 11) (v := .ref (r 12)) (C := RX12) (T := TX12) (N := 24) hx hb hts hinX12 hown hK hP 0 rfl rfl 12 (by decide) hf22 (fun _ h9 => h9) rfl dX12_sizeOf_63 ?_
        refine lv_bipush (v := nI 13) hx hb dX12_sizeOf_66 (by decide) ?_
        refine lv_iload_n hx hb dX12_sizeOf_68 rfl (lv_at hl 2 rfl) ?_
        refine adN (k := 13 + c) hx hb rfl dX12_sizeOf_69 ?_
        refine ldN (f := (A 12)) hx hb hK hP 5 rfl (j := 13 + c) (by omega) (by decide) dX12_sizeOf_70 ?_
        refine lv_aload_n hx hb dX12_sizeOf_71 rfl (lv_at hl 1 rfl) ?_
        refine lv_iload_n hx hb dX12_sizeOf_72 rfl (lv_at hl 2 rfl) ?_
        refine call_i (wr := []) (ws' := (fun u19 : Int32 × (Nat → Int32) => mW cy h r (upd v 21 u19.1) (va_up A 20 u19.2))) (va_runV (As := [.int (nI c)]) (rest := [.int ((A 12) (13 + c))]) CF (k_X12_markNew l D cy _ h r v A n c ((tr1 (((tr1 (((tr1 (t, f) 12).1), ((tr1 (t, f) 12).2)) 11).1), ((tr1 (((tr1 (t, f) 12).1), ((tr1 (t, f) 12).2)) 11).2)) 10).1) ((tr1 (((tr1 (((tr1 (t, f) 12).1), ((tr1 (t, f) 12).2)) 11).1), ((tr1 (((tr1 (t, f) 12).1), ((tr1 (t, f) 12).2)) 11).2)) 10).2) (by first | assumption | omega | decide) (by first | assumption | omega | decide) (by repeat (first | assumption | omega | apply tr1_le | apply trs_le))) (cwV 1 hts gX12_sizeOf_X12_markNew rfl rfl rfl (by decide +kernel) ⟨Nat.le_of_ble_eq_true rfl, Nat.le_of_ble_eq_true rfl⟩) (pre_V hKN hP hD [0, 1, 2, 3, 4, 5, 6, 7, 8, 9, 10, 11, 12, 13, 14] rfl (by decide) 0 11 rfl rfl) rfl rfl hl.1 rfl (lv_room (Nat.le_of_ble_eq_true rfl)) dX12_sizeOf_73 ⟨Nat.le_of_ble_eq_true rfl, Nat.le_of_ble_eq_true rfl⟩) hS hA hP hD [0, 1, 2, 3, 4, 5, 6, 7, 8, 9, 10, 11, 12, 13, 14] [] [0, 1, 2, 3, 4, 5, 6, 7, 8, 9, 10, 11, 12, 13, 14] rfl rfl (by decide) (by decide) (fun _ => rfl) (by decide) (fun r20 u19 H locs hw21 hP hD hS => ?_)
        obtain ⟨hw21a, hw21b⟩ := hw21
        replace hw21a := hw21a.symm; subst hw21a
        replace hw21b := hw21b.symm; subst hw21b
        have hP : va_P D vwCl (mW cy h r (upd v 21 (nI ((trs (((tr1 (((tr1 (((tr1 (t, f) 12).1), ((tr1 (t, f) 12).2)) 11).1), ((tr1 (((tr1 (t, f) 12).1), ((tr1 (t, f) 12).2)) 11).2)) 10).1), ((tr1 (((tr1 (((tr1 (t, f) 12).1), ((tr1 (t, f) 12).2)) 11).1), ((tr1 (((tr1 (t, f) 12).1), ((tr1 (t, f) 12).2)) 11).2)) 10).2)) (mkNewT ((A 12)) c)).1))) (va_up A 20 ((trs (((tr1 (((tr1 (((tr1 (t, f) 12).1), ((tr1 (t, f) 12).2)) 11).1), ((tr1 (((tr1 (t, f) 12).1), ((tr1 (t, f) 12).2)) 11).2)) 10).1), ((tr1 (((tr1 (((tr1 (t, f) 12).1), ((tr1 (t, f) 12).2)) 11).1), ((tr1 (((tr1 (t, f) 12).1), ((tr1 (t, f) 12).2)) 11).2)) 10).2)) (mkNewT ((A 12)) c)).2))) H := hP
        have hD : va_D A_ (mW cy h r (upd v 21 (nI ((trs (((tr1 (((tr1 (((tr1 (t, f) 12).1), ((tr1 (t, f) 12).2)) 11).1), ((tr1 (((tr1 (t, f) 12).1), ((tr1 (t, f) 12).2)) 11).2)) 10).1), ((tr1 (((tr1 (((tr1 (t, f) 12).1), ((tr1 (t, f) 12).2)) 11).1), ((tr1 (((tr1 (t, f) 12).1), ((tr1 (t, f) 12).2)) 11).2)) 10).2)) (mkNewT ((A 12)) c)).1))) (va_up A 20 ((trs (((tr1 (((tr1 (((tr1 (t, f) 12).1), ((tr1 (t, f) 12).2)) 11).1), ((tr1 (((tr1 (t, f) 12).1), ((tr1 (t, f) 12).2)) 11).2)) 10).1), ((tr1 (((tr1 (((tr1 (t, f) 12).1), ((tr1 (t, f) 12).2)) 11).1), ((tr1 (((tr1 (t, f) 12).1), ((tr1 (t, f) 12).2)) 11).2)) 10).2)) (mkNewT ((A 12)) c)).2))) := hD
        refine lv_iadd hx hb dX12_sizeOf_76 ?_
        refine lv_istore_n (lv' := [(3, .int ((A 12) (13 + c) + mkNewV ((A 12)) c)), (2, .int ((A 12) (5 + c))), (0, .ref h), (1, .int (nI c))]) hx hb dX12_sizeOf_77 rfl hl (by decide) rfl (fun ls hl => ?_)
        refine lv_iload_n hx hb dX12_sizeOf_78 rfl (lv_at hl 1 rfl) ?_
        refine lv_iconst (v := nI 2) hx hb dX12_sizeOf_79 (by decide) ?_
        refine lv_icmp_ne (tgt := 88) hx hb dX12_sizeOf_80 (by decide) (fun c80 => ?_) (fun c80 => ?_)
        · refine lv_iload_n hx hb dX12_sizeOf_88 rfl (lv_at hl 0 rfl) ?_
          exact ret _ ((nI ((trs (((tr1 (((tr1 (((tr1 (t, f) 12).1), ((tr1 (t, f) 12).2)) 11).1), ((tr1 (((tr1 (t, f) 12).1), ((tr1 (t, f) 12).2)) 11).2)) 10).1), ((tr1 (((tr1 (((tr1 (t, f) 12).1), ((tr1 (t, f) 12).2)) 11).1), ((tr1 (((tr1 (t, f) 12).1), ((tr1 (t, f) 12).2)) 11).2)) 10).2)) (mkNewT ((A 12)) c)).1)), ((trs (((tr1 (((tr1 (((tr1 (t, f) 12).1), ((tr1 (t, f) 12).2)) 11).1), ((tr1 (((tr1 (t, f) 12).1), ((tr1 (t, f) 12).2)) 11).2)) 10).1), ((tr1 (((tr1 (((tr1 (t, f) 12).1), ((tr1 (t, f) 12).2)) 11).1), ((tr1 (((tr1 (t, f) 12).1), ((tr1 (t, f) 12).2)) 11).2)) 10).2)) (mkNewT ((A 12)) c)).2)) _ _ _ _ dX12_sizeOf_89 (by first | exact absurd c80 c41 | exact absurd c41 c80 | (simp (decide := true) [szT, szV, trs, c11, c30, c41, c80]; done)) hP hD hS
        · refine lv_iload_n hx hb dX12_sizeOf_83 rfl (lv_at hl 0 rfl) ?_
          refine lv_ineg hx hb dX12_sizeOf_84 ?_
          refine lv_goto (tgt := 89) hx hb dX12_sizeOf_85 (by decide) ?_
          exact ret _ ((nI ((trs (((tr1 (((tr1 (((tr1 (t, f) 12).1), ((tr1 (t, f) 12).2)) 11).1), ((tr1 (((tr1 (t, f) 12).1), ((tr1 (t, f) 12).2)) 11).2)) 10).1), ((tr1 (((tr1 (((tr1 (t, f) 12).1), ((tr1 (t, f) 12).2)) 11).1), ((tr1 (((tr1 (t, f) 12).1), ((tr1 (t, f) 12).2)) 11).2)) 10).2)) (mkNewT ((A 12)) c)).1)), ((trs (((tr1 (((tr1 (((tr1 (t, f) 12).1), ((tr1 (t, f) 12).2)) 11).1), ((tr1 (((tr1 (t, f) 12).1), ((tr1 (t, f) 12).2)) 11).2)) 10).1), ((tr1 (((tr1 (((tr1 (t, f) 12).1), ((tr1 (t, f) 12).2)) 11).1), ((tr1 (((tr1 (t, f) 12).1), ((tr1 (t, f) 12).2)) 11).2)) 10).2)) (mkNewT ((A 12)) c)).2)) _ _ _ _ dX12_sizeOf_89 (by first | exact absurd c80 c41 | exact absurd c41 c80 | (simp (decide := true) [szT, szV, trs, c11, c30, c41, c80]; done)) hP hD hS
    · refine lv_aload_n hx hb dX12_sizeOf_33 rfl (lv_at hl 1 rfl) ?_
      refine lv_iload_n hx hb dX12_sizeOf_34 rfl (lv_at hl 2 rfl) ?_
      refine call_i (wr := []) (ws' := (fun u22 : Int32 × (Nat → Int32) => mW cy h r (upd v 21 u22.1) (va_up A 20 u22.2))) (va_runV (As := [.int (nI c)]) (rest := []) CF (k_X12_sizeRod l D cy _ h r v A n c t f (by first | assumption | omega | decide) (by first | assumption | omega | decide) (by repeat (first | assumption | omega | apply tr1_le | apply trs_le))) (cwV 1 hts gX12_sizeOf_X12_sizeRod rfl rfl rfl (by decide +kernel) ⟨Nat.le_of_ble_eq_true rfl, Nat.le_of_ble_eq_true rfl⟩) (pre_V hKN hP hD [0, 1, 2, 3, 4, 5, 6, 7, 8, 9, 10, 11, 12, 13, 14] rfl (by decide) 0 11 rfl rfl) rfl rfl hl.1 rfl (lv_room (Nat.le_of_ble_eq_true rfl)) dX12_sizeOf_35 ⟨Nat.le_of_ble_eq_true rfl, Nat.le_of_ble_eq_true rfl⟩) hS hA hP hD [0, 1, 2, 3, 4, 5, 6, 7, 8, 9, 10, 11, 12, 13, 14] [] [0, 1, 2, 3, 4, 5, 6, 7, 8, 9, 10, 11, 12, 13, 14] rfl rfl (by decide) (by decide) (fun _ => rfl) (by decide) (fun r23 u22 H locs hw24 hP hD hS => ?_)
      obtain ⟨hw24a, hw24b⟩ := hw24
      replace hw24a := hw24a.symm; subst hw24a
      replace hw24b := hw24b.symm; subst hw24b
      have hP : va_P D vwCl (mW cy h r (upd v 21 (nI ((trs (t, f) [13, 10]).1))) (va_up A 20 ((trs (t, f) [13, 10]).2))) H := hP
      have hD : va_D A_ (mW cy h r (upd v 21 (nI ((trs (t, f) [13, 10]).1))) (va_up A 20 ((trs (t, f) [13, 10]).2))) := hD
      exact ret _ ((nI ((trs (t, f) [13, 10]).1)), ((trs (t, f) [13, 10]).2)) _ _ _ _ dX12_sizeOf_38 (by first | exact absurd c80 c41 | exact absurd c41 c80 | (simp (decide := true) [szT, szV, trs, c11, c30]; done)) hP hD hS
  · refine lv_aload_n hx hb dX12_sizeOf_14 rfl (lv_at hl 1 rfl) ?_
    refine lv_bipush (v := nI 14) hx hb dX12_sizeOf_15 (by decide) ?_
    refine call_v (wr := []) (ws' := (fun u25 : Int32 × (Nat → Int32) => mW cy h r (upd v 21 u25.1) (va_up A 20 u25.2))) (va_runV (As := [.int (nI 14)]) (rest := []) CF (k_X12_begins l D cy _ h r v A 14 t f (by repeat (first | assumption | omega | apply tr1_le | apply trs_le))) (cwV 1 hts gX12_sizeOf_X12_begins rfl rfl rfl (by decide +kernel) ⟨Nat.le_of_ble_eq_true rfl, Nat.le_of_ble_eq_true rfl⟩) (pre_V hKN hP hD [0, 1, 2, 3, 4, 5, 6, 7, 8, 9, 10, 11, 12, 13, 14] rfl (by decide) 0 11 rfl rfl) rfl rfl hl.1 rfl (lv_room (Nat.le_of_ble_eq_true rfl)) dX12_sizeOf_17 ⟨Nat.le_of_ble_eq_true rfl, Nat.le_of_ble_eq_true rfl⟩) hS hA hP hD [0, 1, 2, 3, 4, 5, 6, 7, 8, 9, 10, 11, 12, 13, 14] [] [0, 1, 2, 3, 4, 5, 6, 7, 8, 9, 10, 11, 12, 13, 14] rfl rfl (by decide) (by decide) (fun _ => rfl) (by decide) (fun u25 H locs hw27 hP hD hS => ?_)
    replace hw27 := hw27.symm; subst hw27
    have hP : va_P D vwCl (mW cy h r (upd v 21 (nI ((tr1 (t, f) 14).1))) (va_up A 20 ((tr1 (t, f) 14).2))) H := hP
    have hD : va_D A_ (mW cy h r (upd v 21 (nI ((tr1 (t, f) 14).1))) (va_up A 20 ((tr1 (t, f) 14).2))) := hD
    refine lv_iconst (v := nI 2) hx hb dX12_sizeOf_20 (by decide) ?_
    refine lv_aload_n hx hb dX12_sizeOf_21 rfl (lv_at hl 1 rfl) ?_
    refine lv_iload_n hx hb dX12_sizeOf_22 rfl (lv_at hl 2 rfl) ?_
    refine call_i (wr := []) (ws' := (fun u28 : Int32 × (Nat → Int32) => mW cy h r (upd v 21 u28.1) (va_up A 20 u28.2))) (va_runV (As := [.int (nI c)]) (rest := [.int (nI 2)]) CF (k_X12_sizeRod l D cy _ h r v A n c ((tr1 (t, f) 14).1) ((tr1 (t, f) 14).2) (by first | assumption | omega | decide) (by first | assumption | omega | decide) (by repeat (first | assumption | omega | apply tr1_le | apply trs_le))) (cwV 1 hts gX12_sizeOf_X12_sizeRod rfl rfl rfl (by decide +kernel) ⟨Nat.le_of_ble_eq_true rfl, Nat.le_of_ble_eq_true rfl⟩) (pre_V hKN hP hD [0, 1, 2, 3, 4, 5, 6, 7, 8, 9, 10, 11, 12, 13, 14] rfl (by decide) 0 11 rfl rfl) rfl rfl hl.1 rfl (lv_room (Nat.le_of_ble_eq_true rfl)) dX12_sizeOf_23 ⟨Nat.le_of_ble_eq_true rfl, Nat.le_of_ble_eq_true rfl⟩) hS hA hP hD [0, 1, 2, 3, 4, 5, 6, 7, 8, 9, 10, 11, 12, 13, 14] [] [0, 1, 2, 3, 4, 5, 6, 7, 8, 9, 10, 11, 12, 13, 14] rfl rfl (by decide) (by decide) (fun _ => rfl) (by decide) (fun r29 u28 H locs hw30 hP hD hS => ?_)
    obtain ⟨hw30a, hw30b⟩ := hw30
    replace hw30a := hw30a.symm; subst hw30a
    replace hw30b := hw30b.symm; subst hw30b
    have hP : va_P D vwCl (mW cy h r (upd v 21 (nI ((trs (((tr1 (t, f) 14).1), ((tr1 (t, f) 14).2)) [13, 10]).1))) (va_up A 20 ((trs (((tr1 (t, f) 14).1), ((tr1 (t, f) 14).2)) [13, 10]).2))) H := hP
    have hD : va_D A_ (mW cy h r (upd v 21 (nI ((trs (((tr1 (t, f) 14).1), ((tr1 (t, f) 14).2)) [13, 10]).1))) (va_up A 20 ((trs (((tr1 (t, f) 14).1), ((tr1 (t, f) 14).2)) [13, 10]).2))) := hD
    refine lv_imul hx hb dX12_sizeOf_26 ?_
    exact ret _ ((nI ((trs (((tr1 (t, f) 14).1), ((tr1 (t, f) 14).2)) [13, 10]).1)), ((trs (((tr1 (t, f) 14).1), ((tr1 (t, f) 14).2)) [13, 10]).2)) _ _ _ _ dX12_sizeOf_27 (by first | exact absurd c80 c41 | exact absurd c41 c80 | (simp (decide := true) [szT, szV, trs, c11]; done)) hP hD hS
set_option maxHeartbeats 4000000 in
set_option maxRecDepth 100000 in
theorem k_X12_markOf (l : Launch) (D : va_G) (cy : Nat → ClassId) (sz : Nat) (h : Nat) (r : Nat → Nat) (v : Nat → Int32) (A : Nat → Nat → Int32) (n : Nat) (c : Nat) (t : Nat) (f : Nat → Int32) (hn : n ≤ 8) (hc : c < n) (ht16 : t ≤ 16) : Met l yX12_markOf wsX12_markOf (rmD 4) (pPre D (TY cy) (mW cy h r (upd v 21 (nI t)) (va_up A 20 f)) sz [.ref h, .int (nI c)]) (pI D (TY cy) (mW cy h r (upd v 21 (nI t)) (va_up A 20 f)) sz (fun u : Int32 × (Nat → Int32) => mW cy h r (upd v 21 u.1) (va_up A 20 u.2)) (fun (r_ : Int32) (u : Int32 × (Nat → Int32)) => r_ = (mkV (A 12) c) ∧ u = (nI ((trs (t, f) (mkT (A 12) c)).1), (trs (t, f) (mkT (A 12) c)).2))) 0 0 (va_A (mW cy h r (upd v 21 (nI t)) (va_up A 20 f)) sz) := by
  refine ent_i (cc := cX12_markOf) (maxL := 2) (by decide +kernel) rfl (Nat.le_of_ble_eq_true rfl) ?_
  intro p_ e_ s_ m_ args_ below_ meth_ c_ A_ Q_ ls B0 ret
  obtain ⟨CF, hA, hKN, hP, hD, hl⟩ := B0
  have hK := hKN.1
  obtain ⟨hx, hb, hml, hown, hts⟩ := id CF
  have hS : va_S A_ s_.heap s_.heap [] := va_S.rf
  have hl : lv_has ls 2 [(0, .ref h), (1, .int (nI c))] := hl
  have hf22 := hts (.fieldLink RX12 22 "DrawerCardsModel" "now" "[I") (by decide +kernel)
  have hinX12 := show ∀ w ∈ u_ws RX12 TX12 24, w ∈ wsX12_markOf from by decide +kernel
  refine lv_aload_n hx hb dX12_markOf_0 rfl (lv_at hl 0 rfl) ?_
  refine va_get (ci := 11) (v := .ref (r 12)) (C := RX12) (T := TX12) (N := 24) hx hb hts hinX12 hown hK hP 0 rfl rfl 12 (by decide) hf22 (fun _ h9 => h9) rfl dX12_markOf_1 ?_
  refine lv_iconst (v := nI 5) hx hb dX12_markOf_4 (by decide) ?_
  refine lv_iload_n hx hb dX12_markOf_5 rfl (lv_at hl 1 rfl) ?_
  refine adN (k := 5 + c) hx hb rfl dX12_markOf_6 ?_
  refine ldN (f := (A 12)) hx hb hK hP 5 rfl (j := 5 + c) (by omega) (by decide) dX12_markOf_7 ?_
  refine lv_iconst (v := nI 4) hx hb dX12_markOf_8 (by decide) ?_
  refine lv_icmp_ge (tgt := 18) hx hb dX12_markOf_9 (by decide) (fun c9 => ?_) (fun c9 => ?_)
  · refine lv_aload_n hx hb dX12_markOf_18 rfl (lv_at hl 0 rfl) ?_
    refine lv_bipush (v := nI 23) hx hb dX12_markOf_19 (by decide) ?_
    refine call_v (wr := []) (ws' := (fun u1 : Int32 × (Nat → Int32) => mW cy h r (upd v 21 u1.1) (va_up A 20 u1.2))) (va_runV (As := [.int (nI 23)]) (rest := []) CF (k_X12_begins l D cy _ h r v A 23 t f (by repeat (first | assumption | omega | apply tr1_le | apply trs_le))) (cwV 1 hts gX12_markOf_X12_begins rfl rfl rfl (by decide +kernel) ⟨Nat.le_of_ble_eq_true rfl, Nat.le_of_ble_eq_true rfl⟩) (pre_V hKN hP hD [0, 1, 2, 3, 4, 5, 6, 7, 8, 9, 10, 11, 12, 13, 14] rfl (by decide) 0 11 rfl rfl) rfl rfl hl.1 rfl (lv_room (Nat.le_of_ble_eq_true rfl)) dX12_markOf_21 ⟨Nat.le_of_ble_eq_true rfl, Nat.le_of_ble_eq_true rfl⟩) hS hA hP hD [0, 1, 2, 3, 4, 5, 6, 7, 8, 9, 10, 11, 12, 13, 14] [] [0, 1, 2, 3, 4, 5, 6, 7, 8, 9, 10, 11, 12, 13, 14] rfl rfl (by decide) (by decide) (fun _ => rfl) (by decide) (fun u1 H locs hw3 hP hD hS => ?_)
    replace hw3 := hw3.symm; subst hw3
    have hP : va_P D vwCl (mW cy h r (upd v 21 (nI ((tr1 (t, f) 23).1))) (va_up A 20 ((tr1 (t, f) 23).2))) H := hP
    have hD : va_D A_ (mW cy h r (upd v 21 (nI ((tr1 (t, f) 23).1))) (va_up A 20 ((tr1 (t, f) 23).2))) := hD
    refine lv_aload_n hx hb dX12_markOf_24 rfl (lv_at hl 0 rfl) ?_
    refine lv_bipush (v := nI 20) hx hb dX12_markOf_25 (by decide) ?_
    refine call_v (wr := []) (ws' := (fun u4 : Int32 × (Nat → Int32) => mW cy h r (upd v 21 u4.1) (va_up A 20 u4.2))) (va_runV (As := [.int (nI 20)]) (rest := []) CF (k_X12_begins l D cy _ h r v A 20 ((tr1 (t, f) 23).1) ((tr1 (t, f) 23).2) (by repeat (first | assumption | omega | apply tr1_le | apply trs_le))) (cwV 1 hts gX12_markOf_X12_begins rfl rfl rfl (by decide +kernel) ⟨Nat.le_of_ble_eq_true rfl, Nat.le_of_ble_eq_true rfl⟩) (pre_V hKN hP hD [0, 1, 2, 3, 4, 5, 6, 7, 8, 9, 10, 11, 12, 13, 14] rfl (by decide) 0 11 rfl rfl) rfl rfl hl.1 rfl (lv_room (Nat.le_of_ble_eq_true rfl)) dX12_markOf_27 ⟨Nat.le_of_ble_eq_true rfl, Nat.le_of_ble_eq_true rfl⟩) hS hA hP hD [0, 1, 2, 3, 4, 5, 6, 7, 8, 9, 10, 11, 12, 13, 14] [] [0, 1, 2, 3, 4, 5, 6, 7, 8, 9, 10, 11, 12, 13, 14] rfl rfl (by decide) (by decide) (fun _ => rfl) (by decide) (fun u4 H locs hw6 hP hD hS => ?_)
    replace hw6 := hw6.symm; subst hw6
    have hP : va_P D vwCl (mW cy h r (upd v 21 (nI ((tr1 (((tr1 (t, f) 23).1), ((tr1 (t, f) 23).2)) 20).1))) (va_up A 20 ((tr1 (((tr1 (t, f) 23).1), ((tr1 (t, f) 23).2)) 20).2))) H := hP
    have hD : va_D A_ (mW cy h r (upd v 21 (nI ((tr1 (((tr1 (t, f) 23).1), ((tr1 (t, f) 23).2)) 20).1))) (va_up A 20 ((tr1 (((tr1 (t, f) 23).1), ((tr1 (t, f) 23).2)) 20).2))) := hD
    refine lv_iload_n hx hb dX12_markOf_30 rfl (lv_at hl 1 rfl) ?_
    refine lv_aload_n hx hb dX12_markOf_31 rfl (lv_at hl 0 rfl) ?_
    refine lv_iload_n hx hb dX12_markOf_32 rfl (lv_at hl 1 rfl) ?_
    refine call_i (wr := []) (ws' := (fun u7 : Int32 × (Nat → Int32) => mW cy h r (upd v 21 u7.1) (va_up A 20 u7.2))) (va_runV (As := [.int (nI c)]) (rest := [.int (nI c)]) CF (k_X12_sizeOf l D cy _ h r v A n c ((tr1 (((tr1 (t, f) 23).1), ((tr1 (t, f) 23).2)) 20).1) ((tr1 (((tr1 (t, f) 23).1), ((tr1 (t, f) 23).2)) 20).2) (by first | assumption | omega | decide) (by first | assumption | omega | decide) (by repeat (first | assumption | omega | apply tr1_le | apply trs_le))) (cwV 1 hts gX12_markOf_X12_sizeOf rfl rfl rfl (by decide +kernel) ⟨Nat.le_of_ble_eq_true rfl, Nat.le_of_ble_eq_true rfl⟩) (pre_V hKN hP hD [0, 1, 2, 3, 4, 5, 6, 7, 8, 9, 10, 11, 12, 13, 14] rfl (by decide) 0 11 rfl rfl) rfl rfl hl.1 rfl (lv_room (Nat.le_of_ble_eq_true rfl)) dX12_markOf_33 ⟨Nat.le_of_ble_eq_true rfl, Nat.le_of_ble_eq_true rfl⟩) hS hA hP hD [0, 1, 2, 3, 4, 5, 6, 7, 8, 9, 10, 11, 12, 13, 14] [] [0, 1, 2, 3, 4, 5, 6, 7, 8, 9, 10, 11, 12, 13, 14] rfl rfl (by decide) (by decide) (fun _ => rfl) (by decide) (fun r8 u7 H locs hw9 hP hD hS => ?_)
    obtain ⟨hw9a, hw9b⟩ := hw9
    replace hw9a := hw9a.symm; subst hw9a
    replace hw9b := hw9b.symm; subst hw9b
    have hP : va_P D vwCl (mW cy h r (upd v 21 (nI ((trs (((tr1 (((tr1 (t, f) 23).1), ((tr1 (t, f) 23).2)) 20).1), ((tr1 (((tr1 (t, f) 23).1), ((tr1 (t, f) 23).2)) 20).2)) (szT ((A 12)) c)).1))) (va_up A 20 ((trs (((tr1 (((tr1 (t, f) 23).1), ((tr1 (t, f) 23).2)) 20).1), ((tr1 (((tr1 (t, f) 23).1), ((tr1 (t, f) 23).2)) 20).2)) (szT ((A 12)) c)).2))) H := hP
    have hD : va_D A_ (mW cy h r (upd v 21 (nI ((trs (((tr1 (((tr1 (t, f) 23).1), ((tr1 (t, f) 23).2)) 20).1), ((tr1 (((tr1 (t, f) 23).1), ((tr1 (t, f) 23).2)) 20).2)) (szT ((A 12)) c)).1))) (va_up A 20 ((trs (((tr1 (((tr1 (t, f) 23).1), ((tr1 (t, f) 23).2)) 20).1), ((tr1 (((tr1 (t, f) 23).1), ((tr1 (t, f) 23).2)) 20).2)) (szT ((A 12)) c)).2))) := hD
    refine lv_isub hx hb dX12_markOf_36 ?_
    exact ret _ ((nI ((trs (((tr1 (((tr1 (t, f) 23).1), ((tr1 (t, f) 23).2)) 20).1), ((tr1 (((tr1 (t, f) 23).1), ((tr1 (t, f) 23).2)) 20).2)) (szT ((A 12)) c)).1)), ((trs (((tr1 (((tr1 (t, f) 23).1), ((tr1 (t, f) 23).2)) 20).1), ((tr1 (((tr1 (t, f) 23).1), ((tr1 (t, f) 23).2)) 20).2)) (szT ((A 12)) c)).2)) _ _ _ _ dX12_markOf_37 (by simp [-Int32.not_le, -Int32.not_lt, mkT, mkV, trs, c9]) hP hD hS
  · refine lv_aload_n hx hb dX12_markOf_12 rfl (lv_at hl 0 rfl) ?_
    refine lv_iload_n hx hb dX12_markOf_13 rfl (lv_at hl 1 rfl) ?_
    refine call_i (wr := []) (ws' := (fun u10 : Int32 × (Nat → Int32) => mW cy h r (upd v 21 u10.1) (va_up A 20 u10.2))) (va_runV (As := [.int (nI c)]) (rest := []) CF (k_X12_markNew l D cy _ h r v A n c t f (by first | assumption | omega | decide) (by first | assumption | omega | decide) (by repeat (first | assumption | omega | apply tr1_le | apply trs_le))) (cwV 1 hts gX12_markOf_X12_markNew rfl rfl rfl (by decide +kernel) ⟨Nat.le_of_ble_eq_true rfl, Nat.le_of_ble_eq_true rfl⟩) (pre_V hKN hP hD [0, 1, 2, 3, 4, 5, 6, 7, 8, 9, 10, 11, 12, 13, 14] rfl (by decide) 0 11 rfl rfl) rfl rfl hl.1 rfl (lv_room (Nat.le_of_ble_eq_true rfl)) dX12_markOf_14 ⟨Nat.le_of_ble_eq_true rfl, Nat.le_of_ble_eq_true rfl⟩) hS hA hP hD [0, 1, 2, 3, 4, 5, 6, 7, 8, 9, 10, 11, 12, 13, 14] [] [0, 1, 2, 3, 4, 5, 6, 7, 8, 9, 10, 11, 12, 13, 14] rfl rfl (by decide) (by decide) (fun _ => rfl) (by decide) (fun r11 u10 H locs hw12 hP hD hS => ?_)
    obtain ⟨hw12a, hw12b⟩ := hw12
    replace hw12a := hw12a.symm; subst hw12a
    replace hw12b := hw12b.symm; subst hw12b
    have hP : va_P D vwCl (mW cy h r (upd v 21 (nI ((trs (t, f) (mkNewT ((A 12)) c)).1))) (va_up A 20 ((trs (t, f) (mkNewT ((A 12)) c)).2))) H := hP
    have hD : va_D A_ (mW cy h r (upd v 21 (nI ((trs (t, f) (mkNewT ((A 12)) c)).1))) (va_up A 20 ((trs (t, f) (mkNewT ((A 12)) c)).2))) := hD
    exact ret _ ((nI ((trs (t, f) (mkNewT ((A 12)) c)).1)), ((trs (t, f) (mkNewT ((A 12)) c)).2)) _ _ _ _ dX12_markOf_17 (by simp [-Int32.not_le, -Int32.not_lt, mkT, mkV, trs, c9]) hP hD hS
set_option maxHeartbeats 4000000 in
set_option maxRecDepth 100000 in
theorem k_X12_ask (l : Launch) (D : va_G) (cy : Nat → ClassId) (sz : Nat) (h : Nat) (r : Nat → Nat) (v : Nat → Int32) (A : Nat → Nat → Int32) (n : Nat) (x : Int32) (w0 : Int32) (hC : Cat (A 12) n) : Met l yX12_ask wsX12_ask (rmD 5) (pPre D (TY cy) (mW cy h r v A) sz [.ref h, .int x, .int w0]) (pI D (TY cy) (mW cy h r v A) sz (fun u : (Nat → Int32) × (Nat → Nat → Int32) => mW cy h r u.1 u.2) (fun (r_ : Int32) (u : (Nat → Int32) × (Nat → Nat → Int32)) => r_ = ((mAsk v A x w0).1) ∧ u = ((mAsk v A x w0).2.1, (mAsk v A x w0).2.2))) 0 0 (va_A (mW cy h r v A) sz) := by
  refine ent_i (cc := cX12_ask) (maxL := 3) (by decide +kernel) rfl (Nat.le_of_ble_eq_true rfl) ?_
  intro p_ e_ s_ m_ args_ below_ meth_ c_ A_ Q_ ls B0 ret
  obtain ⟨CF, hA, hKN, hP, hD, hl⟩ := B0
  have hK := hKN.1
  obtain ⟨hx, hb, hml, hown, hts⟩ := id CF
  have hS : va_S A_ s_.heap s_.heap [] := va_S.rf
  have hl : lv_has ls 3 [(0, .ref h), (1, .int x), (2, .int w0)] := hl
  have hc66 := hts (.constant RX12 66 (-1000001)) (by decide +kernel)
  have hf224 := hts (.fieldLink RX12 224 "DrawerCardsModel" "traceMany" "I") (by decide +kernel)
  have hinX12 := show ∀ w ∈ u_ws RX12 TX12 24, w ∈ wsX12_ask from by decide +kernel
  have hn := hC.2.1
  refine lv_aload_n hx hb dX12_ask_0 rfl (lv_at hl 0 rfl) ?_
  refine lv_iload_n hx hb dX12_ask_1 rfl (lv_at hl 1 rfl) ?_
  refine call_i (wr := []) (ws' := (fun _ : Unit => mW cy h r v A)) (va_runV (As := [.int x]) (rest := []) CF (k_X12_isOne l D cy _ h r v A x ) (cwV 1 hts gX12_ask_X12_isOne rfl rfl rfl (by decide +kernel) ⟨Nat.le_of_ble_eq_true rfl, Nat.le_of_ble_eq_true rfl⟩) (pre_V hKN hP hD [0, 1, 2, 3, 4, 5, 6, 7, 8, 9, 10, 11, 12, 13, 14] rfl (by decide) 0 11 rfl rfl) rfl rfl hl.1 rfl (lv_room (Nat.le_of_ble_eq_true rfl)) dX12_ask_2 ⟨Nat.le_of_ble_eq_true rfl, Nat.le_of_ble_eq_true rfl⟩) hS hA hP hD [0, 1, 2, 3, 4, 5, 6, 7, 8, 9, 10, 11, 12, 13, 14] [] [0, 1, 2, 3, 4, 5, 6, 7, 8, 9, 10, 11, 12, 13, 14] rfl rfl (by decide) (by decide) (fun _ => rfl) (by decide) (fun r2 u1 H locs hw3 hP hD hS => ?_)
  replace hw3 := hw3.symm; subst hw3
  refine ifeqB (tgt := 17) hx hb dX12_ask_5 (by decide) (fun c5 => ?_) (fun c5 => ?_)
  · refine lv_ldc hx hb hown hc66 dX12_ask_17 ?_
    exact ret _ (v, A) _ _ _ _ dX12_ask_19 (by simp (decide := true) [-not_and, -Int32.not_le, -Int32.not_lt, noOne, noDr, mAsk, c5]) hP hD hS
  · obtain ⟨k, h_k, rfl⟩ := rng' (m := n) (by omega) (by rw [← hC.1]; exact c5)
    have e_k : (nI k).toNatClampNeg = k := nI_clamp (by omega)
    refine lv_iload_n hx hb dX12_ask_8 rfl (lv_at hl 2 rfl) ?_
    refine lv_iconst (v := nI 0) hx hb dX12_ask_9 (by decide) ?_
    refine lv_iconst (v := nI 1) hx hb dX12_ask_10 (by decide) ?_
    refine call_i (wr := [(h, .inr (11, mO r v)), ((r 0), wInt (cy 0) 8 (A 0)), ((r 1), wInt (cy 0) 8 (A 1)), ((r 2), wInt (cy 0) 320 (A 2)), ((r 5), wInt (cy 0) 60 (A 5)), ((r 12), wInt (cy 0) 37 (A 12)), ((r 13), wInt (cy 0) 37 (A 13)), ((r 14), wInt (cy 0) 37 (A 14)), ((r 15), wInt (cy 0) 37 (A 15)), ((r 16), wInt (cy 0) 74 (A 16)), ((r 17), wInt (cy 1) 2 (A 17)), ((r 18), wInt (cy 0) 888 (A 18)), ((r 20), wInt (cy 0) 16 (A 20)), ((r 22), wInt (cy 0) 16 (A 22)), ((r 23), wInt (cy 0) 24 (A 23))]) (ws' := (fun _ : Unit => mW cy h r v A)) (va_runS (As := [.int w0, .int (nI 0), .int (nI 1)]) (rest := []) CF (k_X12_in l D cy _ w0 (nI 0) (nI 1) ) (va_cwS 3 hts gX12_ask_X12_in rfl rfl rfl (by decide +kernel) ⟨Nat.le_of_ble_eq_true rfl, Nat.le_of_ble_eq_true rfl⟩) (pre_S hKN hP hD [] rfl (by decide)) rfl rfl hl.1 rfl (lv_room (Nat.le_of_ble_eq_true rfl)) dX12_ask_11 ⟨Nat.le_of_ble_eq_true rfl, Nat.le_of_ble_eq_true rfl⟩) hS hA hP hD [] [0, 1, 2, 3, 4, 5, 6, 7, 8, 9, 10, 11, 12, 13, 14] [0, 1, 2, 3, 4, 5, 6, 7, 8, 9, 10, 11, 12, 13, 14] rfl rfl (by decide) (by decide) (fun _ => rfl) (by decide) (fun r5 u4 H locs hw6 hP hD hS => ?_)
    replace hw6 := hw6.symm; subst hw6
    refine ifneB (tgt := 20) hx hb dX12_ask_14 (by decide) (fun c14 => ?_) (fun c14 => ?_)
    · refine lv_aload_n hx hb dX12_ask_20 rfl (lv_at hl 0 rfl) ?_
      refine lv_iconst (v := nI 0) hx hb dX12_ask_21 (by decide) ?_
      refine va_put (ci := 11) (v := .int (nI 0)) (ty := .int) (C := RX12) (T := TX12) (N := 24) hx hb hts hinX12 tyX12 tyX12_ok nmX12 hown hK hP hD hS 0 rfl rfl 21 (by decide) hf224 (fun _ h9 => h9) rfl (by decide +kernel) rfl rfl (Nat.le_of_ble_eq_true rfl) dX12_ask_22 (fun H locs hP hD hS => ?_)
      have hP : va_P D vwCl (mW cy h r (upd v 21 (nI 0)) A) H := hP
      have hD : va_D A_ (mW cy h r (upd v 21 (nI 0)) A) := hD
      refine lv_iload_n hx hb dX12_ask_25 rfl (lv_at hl 2 rfl) ?_
      refine lv_if_ne (tgt := 37) hx hb dX12_ask_26 (by decide) (fun c26 => ?_) (fun c26 => ?_)
      · refine lv_aload_n hx hb dX12_ask_37 rfl (lv_at hl 0 rfl) ?_
        refine lv_iload_n hx hb dX12_ask_38 rfl (lv_at hl 1 rfl) ?_
        refine call_i (wr := []) (ws' := (fun u7 : Int32 × (Nat → Int32) => mW cy h r (upd v 21 u7.1) (va_up A 20 u7.2))) (va_runV (As := [.int (nI k)]) (rest := []) CF (k_X12_markOf l D cy _ h r v A n k 0 (A 20) (by first | assumption | omega | decide) (by first | assumption | omega | decide) (by repeat (first | assumption | omega | apply tr1_le | apply trs_le))) (cwV 1 hts gX12_ask_X12_markOf rfl rfl rfl (by decide +kernel) ⟨Nat.le_of_ble_eq_true rfl, Nat.le_of_ble_eq_true rfl⟩) (pre_V hKN hP hD [0, 1, 2, 3, 4, 5, 6, 7, 8, 9, 10, 11, 12, 13, 14] rfl (by decide) 0 11 rfl rfl) rfl rfl hl.1 rfl (lv_room (Nat.le_of_ble_eq_true rfl)) dX12_ask_39 ⟨Nat.le_of_ble_eq_true rfl, Nat.le_of_ble_eq_true rfl⟩) hS hA hP hD [0, 1, 2, 3, 4, 5, 6, 7, 8, 9, 10, 11, 12, 13, 14] [] [0, 1, 2, 3, 4, 5, 6, 7, 8, 9, 10, 11, 12, 13, 14] rfl rfl (by decide) (by decide) (fun _ => rfl) (by decide) (fun r8 u7 H locs hw9 hP hD hS => ?_)
        obtain ⟨hw9a, hw9b⟩ := hw9
        replace hw9a := hw9a.symm; subst hw9a
        replace hw9b := hw9b.symm; subst hw9b
        have hP : va_P D vwCl (mW cy h r (upd v 21 (nI ((trs (0, (A 20)) (mkT ((A 12)) k)).1))) (va_up A 20 ((trs (0, (A 20)) (mkT ((A 12)) k)).2))) H := hP
        have hD : va_D A_ (mW cy h r (upd v 21 (nI ((trs (0, (A 20)) (mkT ((A 12)) k)).1))) (va_up A 20 ((trs (0, (A 20)) (mkT ((A 12)) k)).2))) := hD
        exact ret _ ((upd v 21 (nI ((trs (0, (A 20)) (mkT ((A 12)) k)).1))), (va_up A 20 ((trs (0, (A 20)) (mkT ((A 12)) k)).2))) _ _ _ _ dX12_ask_42 (by simp (decide := true) [-not_and, -Int32.not_le, -Int32.not_lt, noOne, noDr, mAsk, c5, e_k, c14, c26]) hP hD hS
      · refine lv_aload_n hx hb dX12_ask_29 rfl (lv_at hl 0 rfl) ?_
        refine lv_iload_n hx hb dX12_ask_30 rfl (lv_at hl 1 rfl) ?_
        refine call_i (wr := []) (ws' := (fun u10 : Int32 × (Nat → Int32) => mW cy h r (upd v 21 u10.1) (va_up A 20 u10.2))) (va_runV (As := [.int (nI k)]) (rest := []) CF (k_X12_sizeOf l D cy _ h r v A n k 0 (A 20) (by first | assumption | omega | decide) (by first | assumption | omega | decide) (by repeat (first | assumption | omega | apply tr1_le | apply trs_le))) (cwV 1 hts gX12_ask_X12_sizeOf rfl rfl rfl (by decide +kernel) ⟨Nat.le_of_ble_eq_true rfl, Nat.le_of_ble_eq_true rfl⟩) (pre_V hKN hP hD [0, 1, 2, 3, 4, 5, 6, 7, 8, 9, 10, 11, 12, 13, 14] rfl (by decide) 0 11 rfl rfl) rfl rfl hl.1 rfl (lv_room (Nat.le_of_ble_eq_true rfl)) dX12_ask_31 ⟨Nat.le_of_ble_eq_true rfl, Nat.le_of_ble_eq_true rfl⟩) hS hA hP hD [0, 1, 2, 3, 4, 5, 6, 7, 8, 9, 10, 11, 12, 13, 14] [] [0, 1, 2, 3, 4, 5, 6, 7, 8, 9, 10, 11, 12, 13, 14] rfl rfl (by decide) (by decide) (fun _ => rfl) (by decide) (fun r11 u10 H locs hw12 hP hD hS => ?_)
        obtain ⟨hw12a, hw12b⟩ := hw12
        replace hw12a := hw12a.symm; subst hw12a
        replace hw12b := hw12b.symm; subst hw12b
        have hP : va_P D vwCl (mW cy h r (upd v 21 (nI ((trs (0, (A 20)) (szT ((A 12)) k)).1))) (va_up A 20 ((trs (0, (A 20)) (szT ((A 12)) k)).2))) H := hP
        have hD : va_D A_ (mW cy h r (upd v 21 (nI ((trs (0, (A 20)) (szT ((A 12)) k)).1))) (va_up A 20 ((trs (0, (A 20)) (szT ((A 12)) k)).2))) := hD
        refine lv_goto (tgt := 42) hx hb dX12_ask_34 (by decide) ?_
        exact ret _ ((upd v 21 (nI ((trs (0, (A 20)) (szT ((A 12)) k)).1))), (va_up A 20 ((trs (0, (A 20)) (szT ((A 12)) k)).2))) _ _ _ _ dX12_ask_42 (by simp (decide := true) [-not_and, -Int32.not_le, -Int32.not_lt, noOne, noDr, mAsk, c5, e_k, c14, c26]) hP hD hS
    · refine lv_ldc hx hb hown hc66 dX12_ask_17 ?_
      exact ret _ (v, A) _ _ _ _ dX12_ask_19 (by simp (decide := true) [-not_and, -Int32.not_le, -Int32.not_lt, noOne, noDr, mAsk, c5, e_k, c14]) hP hD hS
set_option maxHeartbeats 4000000 in
set_option maxRecDepth 100000 in
theorem k_X12_trace (l : Launch) (D : va_G) (cy : Nat → ClassId) (sz : Nat) (h : Nat) (r : Nat → Nat) (v : Nat → Int32) (A : Nat → Nat → Int32) (t : Nat) (x : Int32) (ht : v 21 = nI t) (ht16 : t ≤ 16) : Met l yX12_trace wsX12_trace (rmD 1) (pPre D (TY cy) (mW cy h r v A) sz [.ref h, .int x]) (pI D (TY cy) (mW cy h r v A) sz (fun _ : Unit => mW cy h r v A) (fun (r_ : Int32) (_ : Unit) => r_ = (mTrace v A x))) 0 0 (va_A (mW cy h r v A) sz) := by
  refine ent_i (cc := cX12_trace) (maxL := 2) (by decide +kernel) rfl (Nat.le_of_ble_eq_true rfl) ?_
  intro p_ e_ s_ m_ args_ below_ meth_ c_ A_ Q_ ls B0 ret
  obtain ⟨CF, hA, hKN, hP, hD, hl⟩ := B0
  have hK := hKN.1
  obtain ⟨hx, hb, hml, hown, hts⟩ := id CF
  have hS : va_S A_ s_.heap s_.heap [] := va_S.rf
  have hl : lv_has ls 2 [(0, .ref h), (1, .int x)] := hl
  have hf224 := hts (.fieldLink RX12 224 "DrawerCardsModel" "traceMany" "I") (by decide +kernel)
  have hinX12 := show ∀ w ∈ u_ws RX12 TX12 24, w ∈ wsX12_trace from by decide +kernel
  have hc137 := hts (.constant RX12 137 (-1000000)) (by decide +kernel)
  have hf44 := hts (.fieldLink RX12 44 "DrawerCardsModel" "trace" "[I") (by decide +kernel)
  refine lv_iload_n hx hb dX12_trace_0 rfl (lv_at hl 1 rfl) ?_
  refine lv_iconst (v := nI 0) hx hb dX12_trace_1 (by decide) ?_
  refine lv_aload_n hx hb dX12_trace_2 rfl (lv_at hl 0 rfl) ?_
  refine va_get (ci := 11) (v := .int (v 21)) (C := RX12) (T := TX12) (N := 24) hx hb hts hinX12 hown hK hP 0 rfl rfl 21 (by decide) hf224 (fun _ h9 => h9) rfl dX12_trace_3 ?_
  refine top_i ht ?_
  refine lv_iconst (v := nI 1) hx hb dX12_trace_6 (by decide) ?_
  refine lv_isub hx hb dX12_trace_7 ?_
  refine call_i (wr := [(h, .inr (11, mO r v)), ((r 0), wInt (cy 0) 8 (A 0)), ((r 1), wInt (cy 0) 8 (A 1)), ((r 2), wInt (cy 0) 320 (A 2)), ((r 5), wInt (cy 0) 60 (A 5)), ((r 12), wInt (cy 0) 37 (A 12)), ((r 13), wInt (cy 0) 37 (A 13)), ((r 14), wInt (cy 0) 37 (A 14)), ((r 15), wInt (cy 0) 37 (A 15)), ((r 16), wInt (cy 0) 74 (A 16)), ((r 17), wInt (cy 1) 2 (A 17)), ((r 18), wInt (cy 0) 888 (A 18)), ((r 20), wInt (cy 0) 16 (A 20)), ((r 22), wInt (cy 0) 16 (A 22)), ((r 23), wInt (cy 0) 24 (A 23))]) (ws' := (fun _ : Unit => mW cy h r v A)) (va_runS (As := [.int x, .int (nI 0), .int (nI t - nI 1)]) (rest := []) CF (k_X12_in l D cy _ x (nI 0) (nI t - nI 1) ) (va_cwS 3 hts gX12_trace_X12_in rfl rfl rfl (by decide +kernel) ⟨Nat.le_of_ble_eq_true rfl, Nat.le_of_ble_eq_true rfl⟩) (pre_S hKN hP hD [] rfl (by decide)) rfl rfl hl.1 rfl (lv_room (Nat.le_of_ble_eq_true rfl)) dX12_trace_8 ⟨Nat.le_of_ble_eq_true rfl, Nat.le_of_ble_eq_true rfl⟩) hS hA hP hD [] [0, 1, 2, 3, 4, 5, 6, 7, 8, 9, 10, 11, 12, 13, 14] [0, 1, 2, 3, 4, 5, 6, 7, 8, 9, 10, 11, 12, 13, 14] rfl rfl (by decide) (by decide) (fun _ => rfl) (by decide) (fun r2 u1 H locs hw3 hP hD hS => ?_)
  replace hw3 := hw3.symm; subst hw3
  refine ifeqB (tgt := 23) hx hb dX12_trace_11 (by decide) (fun c11 => ?_) (fun c11 => ?_)
  · refine lv_ldc hx hb hown hc137 dX12_trace_23 ?_
    exact ret _ () _ _ _ _ dX12_trace_25 (by simp [-not_and, -Int32.not_le, -Int32.not_lt, noOne, noDr, mTrace, ht, c11]) hP hD hS
  · obtain ⟨k, h_k, rfl⟩ := rng' (m := t) (by omega) c11
    have e_k : (nI k).toNatClampNeg = k := nI_clamp (by omega)
    refine lv_aload_n hx hb dX12_trace_14 rfl (lv_at hl 0 rfl) ?_
    refine va_get (ci := 11) (v := .ref (r 20)) (C := RX12) (T := TX12) (N := 24) hx hb hts hinX12 hown hK hP 0 rfl rfl 20 (by decide) hf44 (fun _ h9 => h9) rfl dX12_trace_15 ?_
    refine lv_iload_n hx hb dX12_trace_18 rfl (lv_at hl 1 rfl) ?_
    refine ldN (f := (A 20)) hx hb hK hP 12 rfl (j := k) (by omega) (by decide) dX12_trace_19 ?_
    refine lv_goto (tgt := 25) hx hb dX12_trace_20 (by decide) ?_
    exact ret _ () _ _ _ _ dX12_trace_25 (by simp [-not_and, -Int32.not_le, -Int32.not_lt, noOne, noDr, mTrace, ht, c11, e_k]) hP hD hS
set_option maxHeartbeats 4000000 in
set_option maxRecDepth 100000 in
theorem k_X12_count (l : Launch) (D : va_G) (cy : Nat → ClassId) (sz : Nat) (h : Nat) (r : Nat → Nat) (v : Nat → Int32) (A : Nat → Nat → Int32) (n : Nat) (w0 : Int32) (hC : Cat (A 12) n) : Met l yX12_count wsX12_count (rmD 1) (pPre D (TY cy) (mW cy h r v A) sz [.ref h, .int w0]) (pI D (TY cy) (mW cy h r v A) sz (fun _ : Unit => mW cy h r v A) (fun (r_ : Int32) (_ : Unit) => r_ = (mCount v A n w0))) 0 0 (va_A (mW cy h r v A) sz) := by
  refine ent_i (cc := cX12_count) (maxL := 4) (by decide +kernel) rfl (Nat.le_of_ble_eq_true rfl) ?_
  intro p_ e_ s_ m_ args_ below_ meth_ c_ A_ Q_ ls B0 ret
  obtain ⟨CF, hA, hKN, hP, hD, hl⟩ := B0
  have hK := hKN.1
  obtain ⟨hx, hb, hml, hown, hts⟩ := id CF
  have hS : va_S A_ s_.heap s_.heap [] := va_S.rf
  have hl : lv_has ls 4 [(0, .ref h), (1, .int w0)] := hl
  have hc66 := hts (.constant RX12 66 (-1000001)) (by decide +kernel)
  have hf22 := hts (.fieldLink RX12 22 "DrawerCardsModel" "now" "[I") (by decide +kernel)
  have hinX12 := show ∀ w ∈ u_ws RX12 TX12 24, w ∈ wsX12_count from by decide +kernel
  have hf134 := hts (.fieldLink RX12 134 "DrawerCardsModel" "acts" "I") (by decide +kernel)
  have hf77 := hts (.fieldLink RX12 77 "DrawerCardsModel" "letters" "I") (by decide +kernel)
  have hf7 := hts (.fieldLink RX12 7 "DrawerCardsModel" "lane" "[I") (by decide +kernel)
  have hn := hC.2.1
  refine lv_iconst (v := nI 0) hx hb dX12_count_0 (by decide) ?_
  refine lv_istore_n (lv' := [(2, .int (nI 0)), (0, .ref h), (1, .int w0)]) hx hb dX12_count_1 rfl hl (by decide) rfl (fun ls hl => ?_)
  refine lv_iconst (v := nI 0) hx hb dX12_count_2 (by decide) ?_
  refine lv_istore_n (lv' := [(3, .int (nI 0)), (2, .int (nI 0)), (0, .ref h), (1, .int w0)]) hx hb dX12_count_3 rfl hl (by decide) rfl (fun ls hl => ?_)
  have lp4 : ∀ f_ : Nat, ∀ (i : Nat) (x2 : Int32), (8 - i) < f_ → (i ≤ 8) → (x2 = rowsN (A 0) i) → ∀ (H : Heap) (locs : List Loc), va_P D vwCl (mW cy h r v A) H → va_D A_ (mW cy h r v A) → va_S A_ s_.heap H locs → ∀ ls : Array Slot, lv_has ls 4 [(0, .ref h), (1, .int w0), (2, .int x2), (3, .int (nI i))] → W p_ l e_ (rmD 1) s_ m_ args_ below_ meth_ c_ H locs 0 0 Q_ (F0 m_ 4 ls []) := by
    intro f_
    induction f_ with
    | zero => intro i x2 hm_; exact absurd hm_ (by omega)
    | succ f_ ih4 =>
      intro i x2 hm_ hi e2 H locs hP hD hS ls hl
      refine lv_iload_n hx hb dX12_count_4 rfl (lv_at hl 3 rfl) ?_
      refine lv_bipush (v := nI 8) hx hb dX12_count_5 (by decide) ?_
      refine geN (tgt := 33) hx hb (by omega) (by decide) dX12_count_7 (by decide) (fun c7 => ?_) (fun c7 => ?_)
      · refine lv_iload_n hx hb dX12_count_33 rfl (lv_at hl 1 rfl) ?_
        rcases sw_cases w0 0 8 with c34 | ⟨c34k, c34l, c34⟩
        · have c34n := fun (j : Nat) (hj : (j : Int) ≤ 7) (hj2 : j < 100000) => sw_ne c34 j hj hj2
          refine lv_tableOut (tgt := 128) hx hb dX12_count_34 c34 (by decide) ?_
          refine lv_ldc hx hb hown hc66 dX12_count_128 ?_
          exact ret _ () _ _ _ _ dX12_count_130 (by simp (decide := true) [mCount, c7, Nat.not_lt_of_le c7, c34n 0 (by decide) (by decide), c34n 1 (by decide) (by decide), c34n 2 (by decide) (by decide), c34n 3 (by decide) (by decide), c34n 4 (by decide) (by decide), c34n 5 (by decide) (by decide), c34n 6 (by decide) (by decide), c34n 7 (by decide) (by decide)]) hP hD hS
        · rcases (show c34k = 0 ∨ c34k = 1 ∨ c34k = 2 ∨ c34k = 3 ∨ c34k = 4 ∨ c34k = 5 ∨ c34k = 6 ∨ c34k = 7 by omega) with c34e | c34e | c34e | c34e | c34e | c34e | c34e | c34e
          · subst c34e
            refine lv_tableIn (off := 46) (tgt := 80) hx hb dX12_count_34 (by omega) (by omega) (sw_at c34 rfl) (by decide) ?_
            have c34q := sw_eq c34 (by decide)
            refine lv_iload_n hx hb dX12_count_80 rfl (lv_at hl 2 rfl) ?_
            exact ret _ () _ _ _ _ dX12_count_81 (by rw [e2, show i = 8 by omega]; simp (decide := true) [mCount, c7, Nat.not_lt_of_le c7, c34q]) hP hD hS
          · subst c34e
            refine lv_tableIn (off := 48) (tgt := 82) hx hb dX12_count_34 (by omega) (by omega) (sw_at c34 rfl) (by decide) ?_
            have c34q := sw_eq c34 (by decide)
            refine lv_aload_n hx hb dX12_count_82 rfl (lv_at hl 0 rfl) ?_
            refine va_get (ci := 11) (v := .ref (r 12)) (C := RX12) (T := TX12) (N := 24) hx hb hts hinX12 hown hK hP 0 rfl rfl 12 (by decide) hf22 (fun _ h9 => h9) rfl dX12_count_83 ?_
            refine lv_iconst (v := nI 1) hx hb dX12_count_86 (by decide) ?_
            refine ldN (f := (A 12)) hx hb hK hP 5 rfl (j := 1) (by omega) (by decide) dX12_count_87 ?_
            exact ret _ () _ _ _ _ dX12_count_88 (by simp (decide := true) [mCount, c7, Nat.not_lt_of_le c7, c34q]) hP hD hS
          · subst c34e
            refine lv_tableIn (off := 55) (tgt := 89) hx hb dX12_count_34 (by omega) (by omega) (sw_at c34 rfl) (by decide) ?_
            have c34q := sw_eq c34 (by decide)
            refine lv_aload_n hx hb dX12_count_89 rfl (lv_at hl 0 rfl) ?_
            refine va_get (ci := 11) (v := .ref (r 12)) (C := RX12) (T := TX12) (N := 24) hx hb hts hinX12 hown hK hP 0 rfl rfl 12 (by decide) hf22 (fun _ h9 => h9) rfl dX12_count_90 ?_
            refine lv_iconst (v := nI 3) hx hb dX12_count_93 (by decide) ?_
            refine ldN (f := (A 12)) hx hb hK hP 5 rfl (j := 3) (by omega) (by decide) dX12_count_94 ?_
            exact ret _ () _ _ _ _ dX12_count_95 (by simp (decide := true) [mCount, c7, Nat.not_lt_of_le c7, c34q]) hP hD hS
          · subst c34e
            refine lv_tableIn (off := 62) (tgt := 96) hx hb dX12_count_34 (by omega) (by omega) (sw_at c34 rfl) (by decide) ?_
            have c34q := sw_eq c34 (by decide)
            refine lv_aload_n hx hb dX12_count_96 rfl (lv_at hl 0 rfl) ?_
            refine va_get (ci := 11) (v := .ref (r 12)) (C := RX12) (T := TX12) (N := 24) hx hb hts hinX12 hown hK hP 0 rfl rfl 12 (by decide) hf22 (fun _ h9 => h9) rfl dX12_count_97 ?_
            refine lv_iconst (v := nI 0) hx hb dX12_count_100 (by decide) ?_
            refine ldN (f := (A 12)) hx hb hK hP 5 rfl (j := 0) (by omega) (by decide) dX12_count_101 ?_
            exact ret _ () _ _ _ _ dX12_count_102 (by simp (decide := true) [mCount, c7, Nat.not_lt_of_le c7, c34q]) hP hD hS
          · subst c34e
            refine lv_tableIn (off := 69) (tgt := 103) hx hb dX12_count_34 (by omega) (by omega) (sw_at c34 rfl) (by decide) ?_
            have c34q := sw_eq c34 (by decide)
            refine lv_aload_n hx hb dX12_count_103 rfl (lv_at hl 0 rfl) ?_
            refine va_get (ci := 11) (v := .ref (r 12)) (C := RX12) (T := TX12) (N := 24) hx hb hts hinX12 hown hK hP 0 rfl rfl 12 (by decide) hf22 (fun _ h9 => h9) rfl dX12_count_104 ?_
            refine lv_iconst (v := nI 2) hx hb dX12_count_107 (by decide) ?_
            refine ldN (f := (A 12)) hx hb hK hP 5 rfl (j := 2) (by omega) (by decide) dX12_count_108 ?_
            exact ret _ () _ _ _ _ dX12_count_109 (by simp (decide := true) [mCount, c7, Nat.not_lt_of_le c7, c34q]) hP hD hS
          · subst c34e
            refine lv_tableIn (off := 76) (tgt := 110) hx hb dX12_count_34 (by omega) (by omega) (sw_at c34 rfl) (by decide) ?_
            have c34q := sw_eq c34 (by decide)
            refine lv_aload_n hx hb dX12_count_110 rfl (lv_at hl 0 rfl) ?_
            refine va_get (ci := 11) (v := .int (v 19)) (C := RX12) (T := TX12) (N := 24) hx hb hts hinX12 hown hK hP 0 rfl rfl 19 (by decide) hf134 (fun _ h9 => h9) rfl dX12_count_111 ?_
            exact ret _ () _ _ _ _ dX12_count_114 (by simp (decide := true) [mCount, c7, Nat.not_lt_of_le c7, c34q]) hP hD hS
          · subst c34e
            refine lv_tableIn (off := 81) (tgt := 115) hx hb dX12_count_34 (by omega) (by omega) (sw_at c34 rfl) (by decide) ?_
            have c34q := sw_eq c34 (by decide)
            refine lv_aload_n hx hb dX12_count_115 rfl (lv_at hl 0 rfl) ?_
            refine va_get (ci := 11) (v := .int (v 4)) (C := RX12) (T := TX12) (N := 24) hx hb hts hinX12 hown hK hP 0 rfl rfl 4 (by decide) hf77 (fun _ h9 => h9) rfl dX12_count_116 ?_
            exact ret _ () _ _ _ _ dX12_count_119 (by simp (decide := true) [mCount, c7, Nat.not_lt_of_le c7, c34q]) hP hD hS
          · subst c34e
            refine lv_tableIn (off := 86) (tgt := 120) hx hb dX12_count_34 (by omega) (by omega) (sw_at c34 rfl) (by decide) ?_
            have c34q := sw_eq c34 (by decide)
            refine lv_aload_n hx hb dX12_count_120 rfl (lv_at hl 0 rfl) ?_
            refine va_get (ci := 11) (v := .ref (r 12)) (C := RX12) (T := TX12) (N := 24) hx hb hts hinX12 hown hK hP 0 rfl rfl 12 (by decide) hf22 (fun _ h9 => h9) rfl dX12_count_121 ?_
            refine call_i (wr := [(h, .inr (11, mO r v)), ((r 0), wInt (cy 0) 8 (A 0)), ((r 1), wInt (cy 0) 8 (A 1)), ((r 2), wInt (cy 0) 320 (A 2)), ((r 5), wInt (cy 0) 60 (A 5)), ((r 13), wInt (cy 0) 37 (A 13)), ((r 14), wInt (cy 0) 37 (A 14)), ((r 15), wInt (cy 0) 37 (A 15)), ((r 16), wInt (cy 0) 74 (A 16)), ((r 17), wInt (cy 1) 2 (A 17)), ((r 18), wInt (cy 0) 888 (A 18)), ((r 20), wInt (cy 0) 16 (A 20)), ((r 22), wInt (cy 0) 16 (A 22)), ((r 23), wInt (cy 0) 24 (A 23))]) (ws' := (fun _ : Unit => mW cy h r v A)) (va_runS (As := [.ref (r 12)]) (rest := []) CF (k_X12_figuresOf l D cy _ (r 12) (A 12) n (by first | assumption | omega | decide) hC.1) (va_cwS 1 hts gX12_count_X12_figuresOf rfl rfl rfl (by decide +kernel) ⟨Nat.le_of_ble_eq_true rfl, Nat.le_of_ble_eq_true rfl⟩) (pre_S hKN hP hD [5] rfl (by decide)) rfl rfl hl.1 rfl (lv_room (Nat.le_of_ble_eq_true rfl)) dX12_count_124 ⟨Nat.le_of_ble_eq_true rfl, Nat.le_of_ble_eq_true rfl⟩) hS hA hP hD [5] [0, 1, 2, 3, 4, 6, 7, 8, 9, 10, 11, 12, 13, 14] [0, 1, 2, 3, 4, 14, 5, 6, 7, 8, 9, 10, 11, 12, 13] rfl rfl (by decide) (by decide) (fun _ => rfl) (by decide) (fun r2 u1 H locs hw3 hP hD hS => ?_)
            replace hw3 := hw3.symm; subst hw3
            exact ret _ () _ _ _ _ dX12_count_127 (by simp (decide := true) [mCount, c7, Nat.not_lt_of_le c7, c34q]) hP hD hS
      · refine lv_iload_n hx hb dX12_count_10 rfl (lv_at hl 2 rfl) ?_
        refine lv_aload_n hx hb dX12_count_11 rfl (lv_at hl 0 rfl) ?_
        refine va_get (ci := 11) (v := .ref (r 0)) (C := RX12) (T := TX12) (N := 24) hx hb hts hinX12 hown hK hP 0 rfl rfl 0 (by decide) hf7 (fun _ h9 => h9) rfl dX12_count_12 ?_
        refine lv_iload_n hx hb dX12_count_15 rfl (lv_at hl 3 rfl) ?_
        refine ldN (f := (A 0)) hx hb hK hP 1 rfl (j := i) (by omega) (by decide) dX12_count_16 ?_
        refine lv_if_ge (tgt := 24) hx hb dX12_count_17 (by decide) (fun c17 => ?_) (fun c17 => ?_)
        · refine lv_iconst (v := nI 1) hx hb dX12_count_24 (by decide) ?_
          refine lv_iadd hx hb dX12_count_25 ?_
          refine lv_istore_n (lv' := [(2, .int (x2 + nI 1)), (0, .ref h), (1, .int w0), (3, .int (nI i))]) hx hb dX12_count_26 rfl hl (by decide) rfl (fun ls hl => ?_)
          refine lv_iinc (v := nI (i + 1)) (lv' := [(3, .int (nI (i + 1))), (2, .int (x2 + nI 1)), (0, .ref h), (1, .int w0)]) hx hb dX12_count_27 hl (k := 3) rfl (nI_1 _) (by decide) rfl (fun ls hl => ?_)
          refine lv_goto (tgt := 4) hx hb dX12_count_30 (by decide) ?_
          exact ih4 (i + 1) (x2 + nI 1) (by omega) (by omega) (by subst e2; first | (rw [rowsN, if_pos c17]; done) | (rw [rowsN, if_neg c17]; done)) _ _ hP hD hS ls (lv_sub hl [2, 3, 1, 0] rfl)
        · refine lv_iconst (v := nI 0) hx hb dX12_count_20 (by decide) ?_
          refine lv_goto (tgt := 25) hx hb dX12_count_21 (by decide) ?_
          refine lv_iadd hx hb dX12_count_25 ?_
          refine lv_istore_n (lv' := [(2, .int (x2 + nI 0)), (0, .ref h), (1, .int w0), (3, .int (nI i))]) hx hb dX12_count_26 rfl hl (by decide) rfl (fun ls hl => ?_)
          refine lv_iinc (v := nI (i + 1)) (lv' := [(3, .int (nI (i + 1))), (2, .int (x2 + nI 0)), (0, .ref h), (1, .int w0)]) hx hb dX12_count_27 hl (k := 3) rfl (nI_1 _) (by decide) rfl (fun ls hl => ?_)
          refine lv_goto (tgt := 4) hx hb dX12_count_30 (by decide) ?_
          exact ih4 (i + 1) (x2 + nI 0) (by omega) (by omega) (by subst e2; first | (rw [rowsN, if_pos c17]; done) | (rw [rowsN, if_neg c17]; done)) _ _ hP hD hS ls (lv_sub hl [2, 3, 1, 0] rfl)
  exact lp4 (8 - 0 + 1) 0 (nI 0) (by omega) (by omega) rfl _ _ hP hD hS ls (lv_sub hl [2, 3, 1, 0] rfl)
set_option maxHeartbeats 4000000 in
set_option maxRecDepth 100000 in
theorem k_X12_isPart (l : Launch) (D : va_G) (cy : Nat → ClassId) (sz : Nat) (i0 : Int32) (n0 : Int32) (m0 : Int32)  : Met l yX12_isPart wsX12_isPart (rmD 0) (pPre D (TY cy) ([]) sz [.int i0, .int n0, .int m0]) (pI D (TY cy) ([]) sz (fun _ : Unit => []) (fun (r_ : Int32) (_ : Unit) => r_ = bI (isPrt i0 n0 m0))) 0 0 (va_A ([]) sz) := by
  refine ent_z (cc := cX12_isPart) (maxL := 3) (by decide +kernel) rfl (Nat.le_of_ble_eq_true rfl) ?_
  intro p_ e_ s_ m_ args_ below_ meth_ c_ A_ Q_ ls B0 ret
  obtain ⟨CF, hA, hKN, hP, hD, hl⟩ := B0
  have hK := hKN.1
  obtain ⟨hx, hb, hml, hown, hts⟩ := id CF
  have hS : va_S A_ s_.heap s_.heap [] := va_S.rf
  have hl : lv_has ls 3 [(0, .int i0), (1, .int n0), (2, .int m0)] := hl
  refine lv_iload_n hx hb dX12_isPart_0 rfl (lv_at hl 0 rfl) ?_
  refine lv_if_lt (tgt := 24) hx hb dX12_isPart_1 (by decide) (fun c1 => ?_) (fun c1 => ?_)
  · refine lv_iconst (v := nI 0) hx hb dX12_isPart_24 (by decide) ?_
    exact ret _ () _ _ _ _ dX12_isPart_25 rfl (by rw [bI_f (fun h => by first | exact absurd h.1 (Int32.not_le.mpr c1) | exact absurd h.2.1 (Int32.not_le.mpr c5) | exact absurd h.2.2.1 (Int32.not_le.mpr c10) | exact absurd h.2.2.2 (Int32.not_le.mpr c17))]; rfl) hP hD hS
  · refine lv_iload_n hx hb dX12_isPart_4 rfl (lv_at hl 1 rfl) ?_
    refine lv_if_lt (tgt := 24) hx hb dX12_isPart_5 (by decide) (fun c5 => ?_) (fun c5 => ?_)
    · refine lv_iconst (v := nI 0) hx hb dX12_isPart_24 (by decide) ?_
      exact ret _ () _ _ _ _ dX12_isPart_25 rfl (by rw [bI_f (fun h => by first | exact absurd h.1 (Int32.not_le.mpr c1) | exact absurd h.2.1 (Int32.not_le.mpr c5) | exact absurd h.2.2.1 (Int32.not_le.mpr c10) | exact absurd h.2.2.2 (Int32.not_le.mpr c17))]; rfl) hP hD hS
    · refine lv_iload_n hx hb dX12_isPart_8 rfl (lv_at hl 1 rfl) ?_
      refine lv_iload_n hx hb dX12_isPart_9 rfl (lv_at hl 2 rfl) ?_
      refine lv_icmp_gt (tgt := 24) hx hb dX12_isPart_10 (by decide) (fun c10 => ?_) (fun c10 => ?_)
      · refine lv_iconst (v := nI 0) hx hb dX12_isPart_24 (by decide) ?_
        exact ret _ () _ _ _ _ dX12_isPart_25 rfl (by rw [bI_f (fun h => by first | exact absurd h.1 (Int32.not_le.mpr c1) | exact absurd h.2.1 (Int32.not_le.mpr c5) | exact absurd h.2.2.1 (Int32.not_le.mpr c10) | exact absurd h.2.2.2 (Int32.not_le.mpr c17))]; rfl) hP hD hS
      · refine lv_iload_n hx hb dX12_isPart_13 rfl (lv_at hl 0 rfl) ?_
        refine lv_iload_n hx hb dX12_isPart_14 rfl (lv_at hl 2 rfl) ?_
        refine lv_iload_n hx hb dX12_isPart_15 rfl (lv_at hl 1 rfl) ?_
        refine lv_isub hx hb dX12_isPart_16 ?_
        refine lv_icmp_gt (tgt := 24) hx hb dX12_isPart_17 (by decide) (fun c17 => ?_) (fun c17 => ?_)
        · refine lv_iconst (v := nI 0) hx hb dX12_isPart_24 (by decide) ?_
          exact ret _ () _ _ _ _ dX12_isPart_25 rfl (by rw [bI_f (fun h => by first | exact absurd h.1 (Int32.not_le.mpr c1) | exact absurd h.2.1 (Int32.not_le.mpr c5) | exact absurd h.2.2.1 (Int32.not_le.mpr c10) | exact absurd h.2.2.2 (Int32.not_le.mpr c17))]; rfl) hP hD hS
        · refine lv_iconst (v := nI 1) hx hb dX12_isPart_20 (by decide) ?_
          refine lv_goto (tgt := 25) hx hb dX12_isPart_21 (by decide) ?_
          exact ret _ () _ _ _ _ dX12_isPart_25 rfl (by rw [bI_t ⟨Int32.not_lt.mp c1, Int32.not_lt.mp c5, Int32.not_lt.mp c10, Int32.not_lt.mp c17⟩]; rfl) hP hD hS
set_option maxHeartbeats 4000000 in
set_option maxRecDepth 100000 in
theorem k_X12_copy (l : Launch) (D : va_G) (cy : Nat → ClassId) (sz : Nat) (h : Nat) (r : Nat → Nat) (v : Nat → Int32) (A : Nat → Nat → Int32) (x : Int32) (i0 : Int32) (y : Int32) (j0 : Int32) (n0 : Int32) (hsz : ∀ k, k < 8 → ∃ z, z ≤ 40 ∧ A 1 k = nI z) : Met l yX12_copy wsX12_copy (rmD 2) (pPre D (TY cy) (mW cy h r v A) sz [.ref h, .int x, .int i0, .int y, .int j0, .int n0]) (pI D (TY cy) (mW cy h r v A) sz (fun u : (Nat → Int32) × (Nat → Nat → Int32) => mW cy h r u.1 u.2) (fun (r_ : Int32) (u : (Nat → Int32) × (Nat → Nat → Int32)) => r_ = ((mCopy v A x i0 y j0 n0).1) ∧ u = ((mCopy v A x i0 y j0 n0).2.1, (mCopy v A x i0 y j0 n0).2.2))) 0 0 (va_A (mW cy h r v A) sz) := by
  refine ent_i (cc := cX12_copy) (maxL := 9) (by decide +kernel) rfl (Nat.le_of_ble_eq_true rfl) ?_
  intro p_ e_ s_ m_ args_ below_ meth_ c_ A_ Q_ ls B0 ret
  obtain ⟨CF, hA, hKN, hP, hD, hl⟩ := B0
  have hK := hKN.1
  obtain ⟨hx, hb, hml, hown, hts⟩ := id CF
  have hS : va_S A_ s_.heap s_.heap [] := va_S.rf
  have hl : lv_has ls 9 [(0, .ref h), (1, .int x), (2, .int i0), (3, .int y), (4, .int j0), (5, .int n0)] := hl
  have hc66 := hts (.constant RX12 66 (-1000001)) (by decide +kernel)
  have hf7 := hts (.fieldLink RX12 7 "DrawerCardsModel" "lane" "[I") (by decide +kernel)
  have hinX12 := show ∀ w ∈ u_ws RX12 TX12 24, w ∈ wsX12_copy from by decide +kernel
  have hf13 := hts (.fieldLink RX12 13 "DrawerCardsModel" "size" "[I") (by decide +kernel)
  have hf16 := hts (.fieldLink RX12 16 "DrawerCardsModel" "items" "[I") (by decide +kernel)
  refine lv_iload_n hx hb dX12_copy_0 rfl (lv_at hl 1 rfl) ?_
  refine call_i (wr := [(h, .inr (11, mO r v)), ((r 0), wInt (cy 0) 8 (A 0)), ((r 1), wInt (cy 0) 8 (A 1)), ((r 2), wInt (cy 0) 320 (A 2)), ((r 5), wInt (cy 0) 60 (A 5)), ((r 12), wInt (cy 0) 37 (A 12)), ((r 13), wInt (cy 0) 37 (A 13)), ((r 14), wInt (cy 0) 37 (A 14)), ((r 15), wInt (cy 0) 37 (A 15)), ((r 16), wInt (cy 0) 74 (A 16)), ((r 17), wInt (cy 1) 2 (A 17)), ((r 18), wInt (cy 0) 888 (A 18)), ((r 20), wInt (cy 0) 16 (A 20)), ((r 22), wInt (cy 0) 16 (A 22)), ((r 23), wInt (cy 0) 24 (A 23))]) (ws' := (fun _ : Unit => mW cy h r v A)) (va_runS (As := [.int x]) (rest := []) CF (k_X12_isRow l D cy _ x ) (va_cwS 1 hts gX12_copy_X12_isRow rfl rfl rfl (by decide +kernel) ⟨Nat.le_of_ble_eq_true rfl, Nat.le_of_ble_eq_true rfl⟩) (pre_S hKN hP hD [] rfl (by decide)) rfl rfl hl.1 rfl (lv_room (Nat.le_of_ble_eq_true rfl)) dX12_copy_1 ⟨Nat.le_of_ble_eq_true rfl, Nat.le_of_ble_eq_true rfl⟩) hS hA hP hD [] [0, 1, 2, 3, 4, 5, 6, 7, 8, 9, 10, 11, 12, 13, 14] [0, 1, 2, 3, 4, 5, 6, 7, 8, 9, 10, 11, 12, 13, 14] rfl rfl (by decide) (by decide) (fun _ => rfl) (by decide) (fun r2 u1 H locs hw3 hP hD hS => ?_)
  replace hw3 := hw3.symm; subst hw3
  refine ifeqB (tgt := 14) hx hb dX12_copy_4 (by decide) (fun c4 => ?_) (fun c4 => ?_)
  · refine lv_ldc hx hb hown hc66 dX12_copy_14 ?_
    exact ret _ (v, A) _ _ _ _ dX12_copy_16 (by simp [-not_and, -Int32.not_le, -Int32.not_lt, noOne, noDr, mCopy, c4]) hP hD hS
  · obtain ⟨k1, h_k1, rfl⟩ := rng (m := 7) (by decide) c4
    have e_k1 : (nI k1).toNatClampNeg = k1 := nI_clamp (by omega)
    refine lv_iload_n hx hb dX12_copy_7 rfl (lv_at hl 3 rfl) ?_
    refine call_i (wr := [(h, .inr (11, mO r v)), ((r 0), wInt (cy 0) 8 (A 0)), ((r 1), wInt (cy 0) 8 (A 1)), ((r 2), wInt (cy 0) 320 (A 2)), ((r 5), wInt (cy 0) 60 (A 5)), ((r 12), wInt (cy 0) 37 (A 12)), ((r 13), wInt (cy 0) 37 (A 13)), ((r 14), wInt (cy 0) 37 (A 14)), ((r 15), wInt (cy 0) 37 (A 15)), ((r 16), wInt (cy 0) 74 (A 16)), ((r 17), wInt (cy 1) 2 (A 17)), ((r 18), wInt (cy 0) 888 (A 18)), ((r 20), wInt (cy 0) 16 (A 20)), ((r 22), wInt (cy 0) 16 (A 22)), ((r 23), wInt (cy 0) 24 (A 23))]) (ws' := (fun _ : Unit => mW cy h r v A)) (va_runS (As := [.int y]) (rest := []) CF (k_X12_isRow l D cy _ y ) (va_cwS 1 hts gX12_copy_X12_isRow rfl rfl rfl (by decide +kernel) ⟨Nat.le_of_ble_eq_true rfl, Nat.le_of_ble_eq_true rfl⟩) (pre_S hKN hP hD [] rfl (by decide)) rfl rfl hl.1 rfl (lv_room (Nat.le_of_ble_eq_true rfl)) dX12_copy_8 ⟨Nat.le_of_ble_eq_true rfl, Nat.le_of_ble_eq_true rfl⟩) hS hA hP hD [] [0, 1, 2, 3, 4, 5, 6, 7, 8, 9, 10, 11, 12, 13, 14] [0, 1, 2, 3, 4, 5, 6, 7, 8, 9, 10, 11, 12, 13, 14] rfl rfl (by decide) (by decide) (fun _ => rfl) (by decide) (fun r5 u4 H locs hw6 hP hD hS => ?_)
    replace hw6 := hw6.symm; subst hw6
    refine ifneB (tgt := 17) hx hb dX12_copy_11 (by decide) (fun c11 => ?_) (fun c11 => ?_)
    · obtain ⟨k2, h_k2, rfl⟩ := rng (m := 7) (by decide) c11
      have e_k2 : (nI k2).toNatClampNeg = k2 := nI_clamp (by omega)
      refine lv_aload_n hx hb dX12_copy_17 rfl (lv_at hl 0 rfl) ?_
      refine va_get (ci := 11) (v := .ref (r 0)) (C := RX12) (T := TX12) (N := 24) hx hb hts hinX12 hown hK hP 0 rfl rfl 0 (by decide) hf7 (fun _ h9 => h9) rfl dX12_copy_18 ?_
      refine lv_iload_n hx hb dX12_copy_21 rfl (lv_at hl 1 rfl) ?_
      refine ldN (f := (A 0)) hx hb hK hP 1 rfl (j := k1) (by omega) (by decide) dX12_copy_22 ?_
      refine lv_if_lt (tgt := 35) hx hb dX12_copy_23 (by decide) (fun c23 => ?_) (fun c23 => ?_)
      · refine lv_aload_n hx hb dX12_copy_35 rfl (lv_at hl 0 rfl) ?_
        refine lv_iconst (v := nI 1) hx hb dX12_copy_36 (by decide) ?_
        refine call_i (wr := []) (ws' := (fun _ : Unit => mW cy h r (upd v 3 (nI 1)) A)) (va_runV (As := [.int (nI 1)]) (rest := []) CF (k_X12_finds l D cy _ h r v A (nI 1) ) (cwV 1 hts gX12_copy_X12_finds rfl rfl rfl (by decide +kernel) ⟨Nat.le_of_ble_eq_true rfl, Nat.le_of_ble_eq_true rfl⟩) (pre_V hKN hP hD [0, 1, 2, 3, 4, 5, 6, 7, 8, 9, 10, 11, 12, 13, 14] rfl (by decide) 0 11 rfl rfl) rfl rfl hl.1 rfl (lv_room (Nat.le_of_ble_eq_true rfl)) dX12_copy_37 ⟨Nat.le_of_ble_eq_true rfl, Nat.le_of_ble_eq_true rfl⟩) hS hA hP hD [0, 1, 2, 3, 4, 5, 6, 7, 8, 9, 10, 11, 12, 13, 14] [] [0, 1, 2, 3, 4, 5, 6, 7, 8, 9, 10, 11, 12, 13, 14] rfl rfl (by decide) (by decide) (fun _ => rfl) (by decide) (fun r8 u7 H locs hw9 hP hD hS => ?_)
        replace hw9 := hw9.symm; subst hw9
        exact ret _ ((upd v 3 (nI 1)), A) _ _ _ _ dX12_copy_40 (by simp [-not_and, -Int32.not_le, -Int32.not_lt, noOne, noDr, mCopy, c4, e_k1, c11, e_k2, c23]) hP hD hS
      · refine lv_aload_n hx hb dX12_copy_26 rfl (lv_at hl 0 rfl) ?_
        refine va_get (ci := 11) (v := .ref (r 0)) (C := RX12) (T := TX12) (N := 24) hx hb hts hinX12 hown hK hP 0 rfl rfl 0 (by decide) hf7 (fun _ h9 => h9) rfl dX12_copy_27 ?_
        refine lv_iload_n hx hb dX12_copy_30 rfl (lv_at hl 3 rfl) ?_
        refine ldN (f := (A 0)) hx hb hK hP 1 rfl (j := k2) (by omega) (by decide) dX12_copy_31 ?_
        refine lv_if_ge (tgt := 41) hx hb dX12_copy_32 (by decide) (fun c32 => ?_) (fun c32 => ?_)
        · refine lv_aload_n hx hb dX12_copy_41 rfl (lv_at hl 0 rfl) ?_
          refine va_get (ci := 11) (v := .ref (r 0)) (C := RX12) (T := TX12) (N := 24) hx hb hts hinX12 hown hK hP 0 rfl rfl 0 (by decide) hf7 (fun _ h9 => h9) rfl dX12_copy_42 ?_
          refine lv_iload_n hx hb dX12_copy_45 rfl (lv_at hl 1 rfl) ?_
          refine ldN (f := (A 0)) hx hb hK hP 1 rfl (j := k1) (by omega) (by decide) dX12_copy_46 ?_
          refine lv_aload_n hx hb dX12_copy_47 rfl (lv_at hl 0 rfl) ?_
          refine va_get (ci := 11) (v := .ref (r 0)) (C := RX12) (T := TX12) (N := 24) hx hb hts hinX12 hown hK hP 0 rfl rfl 0 (by decide) hf7 (fun _ h9 => h9) rfl dX12_copy_48 ?_
          refine lv_iload_n hx hb dX12_copy_51 rfl (lv_at hl 3 rfl) ?_
          refine ldN (f := (A 0)) hx hb hK hP 1 rfl (j := k2) (by omega) (by decide) dX12_copy_52 ?_
          refine lv_icmp_eq (tgt := 62) hx hb dX12_copy_53 (by decide) (fun c53 => ?_) (fun c53 => ?_)
          · refine lv_iload_n hx hb dX12_copy_62 rfl (lv_at hl 2 rfl) ?_
            refine lv_iload hx hb dX12_copy_63 (lv_at hl 5 rfl) ?_
            refine lv_aload_n hx hb dX12_copy_65 rfl (lv_at hl 0 rfl) ?_
            refine va_get (ci := 11) (v := .ref (r 1)) (C := RX12) (T := TX12) (N := 24) hx hb hts hinX12 hown hK hP 0 rfl rfl 1 (by decide) hf13 (fun _ h9 => h9) rfl dX12_copy_66 ?_
            refine lv_iload_n hx hb dX12_copy_69 rfl (lv_at hl 1 rfl) ?_
            refine ldN (f := (A 1)) hx hb hK hP 2 rfl (j := k1) (by omega) (by decide) dX12_copy_70 ?_
            refine call_i (wr := [(h, .inr (11, mO r v)), ((r 0), wInt (cy 0) 8 (A 0)), ((r 1), wInt (cy 0) 8 (A 1)), ((r 2), wInt (cy 0) 320 (A 2)), ((r 5), wInt (cy 0) 60 (A 5)), ((r 12), wInt (cy 0) 37 (A 12)), ((r 13), wInt (cy 0) 37 (A 13)), ((r 14), wInt (cy 0) 37 (A 14)), ((r 15), wInt (cy 0) 37 (A 15)), ((r 16), wInt (cy 0) 74 (A 16)), ((r 17), wInt (cy 1) 2 (A 17)), ((r 18), wInt (cy 0) 888 (A 18)), ((r 20), wInt (cy 0) 16 (A 20)), ((r 22), wInt (cy 0) 16 (A 22)), ((r 23), wInt (cy 0) 24 (A 23))]) (ws' := (fun _ : Unit => mW cy h r v A)) (va_runS (As := [.int i0, .int n0, .int ((A 1) k1)]) (rest := []) CF (k_X12_isPart l D cy _ i0 n0 ((A 1) k1) ) (va_cwS 3 hts gX12_copy_X12_isPart rfl rfl rfl (by decide +kernel) ⟨Nat.le_of_ble_eq_true rfl, Nat.le_of_ble_eq_true rfl⟩) (pre_S hKN hP hD [] rfl (by decide)) rfl rfl hl.1 rfl (lv_room (Nat.le_of_ble_eq_true rfl)) dX12_copy_71 ⟨Nat.le_of_ble_eq_true rfl, Nat.le_of_ble_eq_true rfl⟩) hS hA hP hD [] [0, 1, 2, 3, 4, 5, 6, 7, 8, 9, 10, 11, 12, 13, 14] [0, 1, 2, 3, 4, 5, 6, 7, 8, 9, 10, 11, 12, 13, 14] rfl rfl (by decide) (by decide) (fun _ => rfl) (by decide) (fun r11 u10 H locs hw12 hP hD hS => ?_)
            replace hw12 := hw12.symm; subst hw12
            refine ifeqB (tgt := 93) hx hb dX12_copy_74 (by decide) (fun c74 => ?_) (fun c74 => ?_)
            · refine lv_aload_n hx hb dX12_copy_93 rfl (lv_at hl 0 rfl) ?_
              refine lv_iconst (v := nI 2) hx hb dX12_copy_94 (by decide) ?_
              refine call_i (wr := []) (ws' := (fun _ : Unit => mW cy h r (upd v 3 (nI 2)) A)) (va_runV (As := [.int (nI 2)]) (rest := []) CF (k_X12_finds l D cy _ h r v A (nI 2) ) (cwV 1 hts gX12_copy_X12_finds rfl rfl rfl (by decide +kernel) ⟨Nat.le_of_ble_eq_true rfl, Nat.le_of_ble_eq_true rfl⟩) (pre_V hKN hP hD [0, 1, 2, 3, 4, 5, 6, 7, 8, 9, 10, 11, 12, 13, 14] rfl (by decide) 0 11 rfl rfl) rfl rfl hl.1 rfl (lv_room (Nat.le_of_ble_eq_true rfl)) dX12_copy_95 ⟨Nat.le_of_ble_eq_true rfl, Nat.le_of_ble_eq_true rfl⟩) hS hA hP hD [0, 1, 2, 3, 4, 5, 6, 7, 8, 9, 10, 11, 12, 13, 14] [] [0, 1, 2, 3, 4, 5, 6, 7, 8, 9, 10, 11, 12, 13, 14] rfl rfl (by decide) (by decide) (fun _ => rfl) (by decide) (fun r14 u13 H locs hw15 hP hD hS => ?_)
              replace hw15 := hw15.symm; subst hw15
              exact ret _ ((upd v 3 (nI 2)), A) _ _ _ _ dX12_copy_98 (by simp only [mCopy, cl, e_k1, e_k2]; rw [if_neg (fun h => h.elim (fun h => h c4) (fun h => h c11)), if_neg (fun h => h.elim c23 (fun h => h c32)), if_neg (fun h => h c53), if_pos (by first | exact Or.inl c74 | exact Or.inr c90)]; exact ⟨rfl, rfl⟩) hP hD hS
            · refine lv_iload hx hb dX12_copy_77 (lv_at hl 4 rfl) ?_
              refine lv_iload hx hb dX12_copy_79 (lv_at hl 5 rfl) ?_
              refine lv_aload_n hx hb dX12_copy_81 rfl (lv_at hl 0 rfl) ?_
              refine va_get (ci := 11) (v := .ref (r 1)) (C := RX12) (T := TX12) (N := 24) hx hb hts hinX12 hown hK hP 0 rfl rfl 1 (by decide) hf13 (fun _ h9 => h9) rfl dX12_copy_82 ?_
              refine lv_iload_n hx hb dX12_copy_85 rfl (lv_at hl 3 rfl) ?_
              refine ldN (f := (A 1)) hx hb hK hP 2 rfl (j := k2) (by omega) (by decide) dX12_copy_86 ?_
              refine call_i (wr := [(h, .inr (11, mO r v)), ((r 0), wInt (cy 0) 8 (A 0)), ((r 1), wInt (cy 0) 8 (A 1)), ((r 2), wInt (cy 0) 320 (A 2)), ((r 5), wInt (cy 0) 60 (A 5)), ((r 12), wInt (cy 0) 37 (A 12)), ((r 13), wInt (cy 0) 37 (A 13)), ((r 14), wInt (cy 0) 37 (A 14)), ((r 15), wInt (cy 0) 37 (A 15)), ((r 16), wInt (cy 0) 74 (A 16)), ((r 17), wInt (cy 1) 2 (A 17)), ((r 18), wInt (cy 0) 888 (A 18)), ((r 20), wInt (cy 0) 16 (A 20)), ((r 22), wInt (cy 0) 16 (A 22)), ((r 23), wInt (cy 0) 24 (A 23))]) (ws' := (fun _ : Unit => mW cy h r v A)) (va_runS (As := [.int j0, .int n0, .int ((A 1) k2)]) (rest := []) CF (k_X12_isPart l D cy _ j0 n0 ((A 1) k2) ) (va_cwS 3 hts gX12_copy_X12_isPart rfl rfl rfl (by decide +kernel) ⟨Nat.le_of_ble_eq_true rfl, Nat.le_of_ble_eq_true rfl⟩) (pre_S hKN hP hD [] rfl (by decide)) rfl rfl hl.1 rfl (lv_room (Nat.le_of_ble_eq_true rfl)) dX12_copy_87 ⟨Nat.le_of_ble_eq_true rfl, Nat.le_of_ble_eq_true rfl⟩) hS hA hP hD [] [0, 1, 2, 3, 4, 5, 6, 7, 8, 9, 10, 11, 12, 13, 14] [0, 1, 2, 3, 4, 5, 6, 7, 8, 9, 10, 11, 12, 13, 14] rfl rfl (by decide) (by decide) (fun _ => rfl) (by decide) (fun r17 u16 H locs hw18 hP hD hS => ?_)
              replace hw18 := hw18.symm; subst hw18
              refine ifneB (tgt := 99) hx hb dX12_copy_90 (by decide) (fun c90 => ?_) (fun c90 => ?_)
              · obtain ⟨z1, hz1, ez1⟩ := hsz k1 (by omega)
                obtain ⟨z2, hz2, ez2⟩ := hsz k2 (by omega)
                obtain ⟨i1, n1, hin1, rfl, rfl⟩ := isPrt_nat hz1 (by rw [← ez1]; exact c74)
                obtain ⟨j1, n2, hjn1, rfl, en2⟩ := isPrt_nat hz2 (by rw [← ez2]; exact c90)
                have en3 : n1 = n2 := (nIe (by omega) (by omega)).mp en2
                have e_i1 : (nI i1).toNatClampNeg = i1 := nI_clamp (by omega)
                have e_j1 : (nI j1).toNatClampNeg = j1 := nI_clamp (by omega)
                have e_n1 : (nI n1).toNatClampNeg = n1 := nI_clamp (by omega)
                refine lv_iload_n hx hb dX12_copy_99 rfl (lv_at hl 1 rfl) ?_
                refine lv_iload_n hx hb dX12_copy_100 rfl (lv_at hl 3 rfl) ?_
                refine neN (tgt := 114) hx hb (by omega) (by omega) dX12_copy_101 (by decide) (fun c101 => ?_) (fun c101 => ?_)
                · refine lv_iconst (v := nI 0) hx hb dX12_copy_114 (by decide) ?_
                  refine lv_istore (lv' := [(6, .int (nI 0)), (0, .ref h), (1, .int (nI k1)), (2, .int (nI i1)), (3, .int (nI k2)), (4, .int (nI j1)), (5, .int (nI n1))]) hx hb dX12_copy_115 hl (by decide) rfl (fun ls hl => ?_)
                  refine lv_iconst (v := nI 0) hx hb dX12_copy_117 (by decide) ?_
                  refine lv_istore (lv' := [(7, .int (nI 0)), (6, .int (nI 0)), (0, .ref h), (1, .int (nI k1)), (2, .int (nI i1)), (3, .int (nI k2)), (4, .int (nI j1)), (5, .int (nI n1))]) hx hb dX12_copy_118 hl (by decide) rfl (fun ls hl => ?_)
                  have lp120 : ∀ f_ : Nat, ∀ (k : Nat) (f2 : Nat → Int32), (n1 - k) < f_ → (k ≤ n1) → (f2 = cpyF (A 2) (40 * k1 + i1) (40 * k2 + j1) k) → ∀ (H : Heap) (locs : List Loc), va_P D vwCl (mW cy h r v (va_up A 2 f2)) H → va_D A_ (mW cy h r v (va_up A 2 f2)) → va_S A_ s_.heap H locs → ∀ ls : Array Slot, lv_has ls 9 [(0, .ref h), (1, .int (nI k1)), (2, .int (nI i1)), (3, .int (nI k2)), (4, .int (nI j1)), (5, .int (nI n1)), (6, .int (nI 0)), (7, .int (nI k))] → W p_ l e_ (rmD 2) s_ m_ args_ below_ meth_ c_ H locs 0 0 Q_ (F0 m_ 120 ls []) := by
                    intro f_
                    induction f_ with
                    | zero => intro k f2 hm_; exact absurd hm_ (by omega)
                    | succ f_ ih120 =>
                      intro k f2 hm_ hk e2 H locs hP hD hS ls hl
                      refine lv_iload hx hb dX12_copy_120 (lv_at hl 7 rfl) ?_
                      refine lv_iload hx hb dX12_copy_122 (lv_at hl 5 rfl) ?_
                      refine geN (tgt := 181) hx hb (by omega) (by omega) dX12_copy_124 (by decide) (fun c124 => ?_) (fun c124 => ?_)
                      · refine lv_aload_n hx hb dX12_copy_181 rfl (lv_at hl 0 rfl) ?_
                        refine lv_iload hx hb dX12_copy_182 (lv_at hl 5 rfl) ?_
                        refine call_i (wr := []) (ws' := (fun _ : Unit => mW cy h r (upd v 3 (nI 0)) (va_up A 2 f2))) (va_runV (As := [.int (nI n1)]) (rest := []) CF (k_X12_done l D cy _ h r v (va_up A 2 f2) (nI n1) ) (cwV 1 hts gX12_copy_X12_done rfl rfl rfl (by decide +kernel) ⟨Nat.le_of_ble_eq_true rfl, Nat.le_of_ble_eq_true rfl⟩) (pre_V hKN hP hD [0, 1, 2, 3, 4, 5, 6, 7, 8, 9, 10, 11, 12, 13, 14] rfl (by decide) 0 11 rfl rfl) rfl rfl hl.1 rfl (lv_room (Nat.le_of_ble_eq_true rfl)) dX12_copy_184 ⟨Nat.le_of_ble_eq_true rfl, Nat.le_of_ble_eq_true rfl⟩) hS hA hP hD [0, 1, 2, 3, 4, 5, 6, 7, 8, 9, 10, 11, 12, 13, 14] [] [0, 1, 2, 3, 4, 5, 6, 7, 8, 9, 10, 11, 12, 13, 14] rfl rfl (by decide) (by decide) (fun _ => rfl) (by decide) (fun r20 u19 H locs hw21 hP hD hS => ?_)
                        replace hw21 := hw21.symm; subst hw21
                        exact ret _ ((upd v 3 (nI 0)), (va_up A 2 f2)) _ _ _ _ dX12_copy_187 (by have hk9 : k = n1 := (by omega); subst hk9; simp (decide := true) [-not_and, -Int32.not_le, -Int32.not_lt, noOne, noDr, mCopy, isPrt, c4, e_k1, c11, e_k2, c23, c32, c53, c74, c90, e_i1, e_j1, e_n1, c124, Nat.not_lt_of_le c124, (show ¬ A 0 k2 < 0 by rw [← c53]; exact c23), e2, cpyB_n]) hP hD hS
                      · refine lv_iload hx hb dX12_copy_127 (lv_at hl 6 rfl) ?_
                        refine lv_if_eq (tgt := 142) hx hb dX12_copy_129 (by decide) (fun c129 => ?_) (fun c129 => absurd c129 (by decide))
                        refine lv_iload hx hb dX12_copy_142 (lv_at hl 7 rfl) ?_
                        refine lv_istore (lv' := [(8, .int (nI k)), (0, .ref h), (1, .int (nI k1)), (2, .int (nI i1)), (3, .int (nI k2)), (4, .int (nI j1)), (5, .int (nI n1)), (6, .int (nI 0)), (7, .int (nI k))]) hx hb dX12_copy_144 hl (by decide) rfl (fun ls hl => ?_)
                        refine lv_aload_n hx hb dX12_copy_146 rfl (lv_at hl 1 rfl) ?_
                        refine va_get (ci := 11) (v := .ref (r 2)) (C := RX12) (T := TX12) (N := 24) hx hb hts hinX12 hown hK hP 0 rfl rfl 2 (by decide) hf16 (fun _ h9 => h9) rfl dX12_copy_147 ?_
                        refine lv_bipush (v := nI 40) hx hb dX12_copy_150 (by decide) ?_
                        refine lv_iload_n hx hb dX12_copy_152 rfl (lv_at hl 4 rfl) ?_
                        refine muN (k := 40 * k2) hx hb rfl dX12_copy_153 ?_
                        refine lv_iload hx hb dX12_copy_154 (lv_at hl 5 rfl) ?_
                        refine adN (k := 40 * k2 + j1) hx hb rfl dX12_copy_156 ?_
                        refine lv_iload hx hb dX12_copy_157 (lv_at hl 0 rfl) ?_
                        refine adN (k := 40 * k2 + j1 + k) hx hb rfl dX12_copy_159 ?_
                        refine lv_aload_n hx hb dX12_copy_160 rfl (lv_at hl 1 rfl) ?_
                        refine va_get (ci := 11) (v := .ref (r 2)) (C := RX12) (T := TX12) (N := 24) hx hb hts hinX12 hown hK hP 0 rfl rfl 2 (by decide) hf16 (fun _ h9 => h9) rfl dX12_copy_161 ?_
                        refine lv_bipush (v := nI 40) hx hb dX12_copy_164 (by decide) ?_
                        refine lv_iload_n hx hb dX12_copy_166 rfl (lv_at hl 2 rfl) ?_
                        refine muN (k := 40 * k1) hx hb rfl dX12_copy_167 ?_
                        refine lv_iload_n hx hb dX12_copy_168 rfl (lv_at hl 3 rfl) ?_
                        refine adN (k := 40 * k1 + i1) hx hb rfl dX12_copy_169 ?_
                        refine lv_iload hx hb dX12_copy_170 (lv_at hl 0 rfl) ?_
                        refine adN (k := 40 * k1 + i1 + k) hx hb rfl dX12_copy_172 ?_
                        refine ldN (f := f2) hx hb hK hP 3 rfl (j := 40 * k1 + i1 + k) (by omega) (by decide) dX12_copy_173 ?_
                        refine stN (f := f2) (ws' := mW cy h r v (va_up A 2 (upd f2 (40 * k2 + j1 + k) (f2 (40 * k1 + i1 + k))))) hx hb hK hP hD hS 3 rfl (j := 40 * k2 + j1 + k) (by omega) (by decide) dX12_copy_174 rfl (fun H locs hP hD hS => ?_)
                        refine lv_iinc (v := nI (k + 1)) (lv' := [(7, .int (nI (k + 1))), (8, .int (nI k)), (0, .ref h), (1, .int (nI k1)), (2, .int (nI i1)), (3, .int (nI k2)), (4, .int (nI j1)), (5, .int (nI n1)), (6, .int (nI 0))]) hx hb dX12_copy_175 hl (k := 8) rfl (nI_1 _) (by decide) rfl (fun ls hl => ?_)
                        refine lv_goto (tgt := 120) hx hb dX12_copy_178 (by decide) ?_
                        exact ih120 (k + 1) (upd f2 (40 * k2 + j1 + k) (f2 (40 * k1 + i1 + k))) (by omega) (by omega) (by rw [e2]; exact cpyF_s _ (by omega)) _ _ hP hD hS ls (lv_sub hl [2, 3, 4, 5, 6, 7, 8, 0] rfl)
                  exact lp120 (n1 - 0 + 1) 0 (A 2) (by omega) (by omega) (cpyF_0 _ _ _).symm _ _ hP hD hS ls (lv_sub hl [2, 3, 4, 5, 6, 7, 1, 0] rfl)
                · refine lv_iload hx hb dX12_copy_104 (lv_at hl 4 rfl) ?_
                  refine lv_iload_n hx hb dX12_copy_106 rfl (lv_at hl 2 rfl) ?_
                  refine leN (tgt := 114) hx hb (by omega) (by omega) dX12_copy_107 (by decide) (fun c107 => ?_) (fun c107 => ?_)
                  · refine lv_iconst (v := nI 0) hx hb dX12_copy_114 (by decide) ?_
                    refine lv_istore (lv' := [(6, .int (nI 0)), (0, .ref h), (1, .int (nI k1)), (2, .int (nI i1)), (3, .int (nI k2)), (4, .int (nI j1)), (5, .int (nI n1))]) hx hb dX12_copy_115 hl (by decide) rfl (fun ls hl => ?_)
                    refine lv_iconst (v := nI 0) hx hb dX12_copy_117 (by decide) ?_
                    refine lv_istore (lv' := [(7, .int (nI 0)), (6, .int (nI 0)), (0, .ref h), (1, .int (nI k1)), (2, .int (nI i1)), (3, .int (nI k2)), (4, .int (nI j1)), (5, .int (nI n1))]) hx hb dX12_copy_118 hl (by decide) rfl (fun ls hl => ?_)
                    have lp120 : ∀ f_ : Nat, ∀ (k : Nat) (f2 : Nat → Int32), (n1 - k) < f_ → (k ≤ n1) → (f2 = cpyF (A 2) (40 * k1 + i1) (40 * k2 + j1) k) → ∀ (H : Heap) (locs : List Loc), va_P D vwCl (mW cy h r v (va_up A 2 f2)) H → va_D A_ (mW cy h r v (va_up A 2 f2)) → va_S A_ s_.heap H locs → ∀ ls : Array Slot, lv_has ls 9 [(0, .ref h), (1, .int (nI k1)), (2, .int (nI i1)), (3, .int (nI k2)), (4, .int (nI j1)), (5, .int (nI n1)), (6, .int (nI 0)), (7, .int (nI k))] → W p_ l e_ (rmD 2) s_ m_ args_ below_ meth_ c_ H locs 0 0 Q_ (F0 m_ 120 ls []) := by
                      intro f_
                      induction f_ with
                      | zero => intro k f2 hm_; exact absurd hm_ (by omega)
                      | succ f_ ih120 =>
                        intro k f2 hm_ hk e2 H locs hP hD hS ls hl
                        refine lv_iload hx hb dX12_copy_120 (lv_at hl 7 rfl) ?_
                        refine lv_iload hx hb dX12_copy_122 (lv_at hl 5 rfl) ?_
                        refine geN (tgt := 181) hx hb (by omega) (by omega) dX12_copy_124 (by decide) (fun c124 => ?_) (fun c124 => ?_)
                        · refine lv_aload_n hx hb dX12_copy_181 rfl (lv_at hl 0 rfl) ?_
                          refine lv_iload hx hb dX12_copy_182 (lv_at hl 5 rfl) ?_
                          refine call_i (wr := []) (ws' := (fun _ : Unit => mW cy h r (upd v 3 (nI 0)) (va_up A 2 f2))) (va_runV (As := [.int (nI n1)]) (rest := []) CF (k_X12_done l D cy _ h r v (va_up A 2 f2) (nI n1) ) (cwV 1 hts gX12_copy_X12_done rfl rfl rfl (by decide +kernel) ⟨Nat.le_of_ble_eq_true rfl, Nat.le_of_ble_eq_true rfl⟩) (pre_V hKN hP hD [0, 1, 2, 3, 4, 5, 6, 7, 8, 9, 10, 11, 12, 13, 14] rfl (by decide) 0 11 rfl rfl) rfl rfl hl.1 rfl (lv_room (Nat.le_of_ble_eq_true rfl)) dX12_copy_184 ⟨Nat.le_of_ble_eq_true rfl, Nat.le_of_ble_eq_true rfl⟩) hS hA hP hD [0, 1, 2, 3, 4, 5, 6, 7, 8, 9, 10, 11, 12, 13, 14] [] [0, 1, 2, 3, 4, 5, 6, 7, 8, 9, 10, 11, 12, 13, 14] rfl rfl (by decide) (by decide) (fun _ => rfl) (by decide) (fun r23 u22 H locs hw24 hP hD hS => ?_)
                          replace hw24 := hw24.symm; subst hw24
                          exact ret _ ((upd v 3 (nI 0)), (va_up A 2 f2)) _ _ _ _ dX12_copy_187 (by have hk9 : k = n1 := (by omega); subst hk9; simp (decide := true) [-not_and, -Int32.not_le, -Int32.not_lt, noOne, noDr, mCopy, isPrt, c4, e_k1, c11, e_k2, c23, c32, c53, c74, c90, e_i1, e_j1, e_n1, c124, Nat.not_lt_of_le c124, (show ¬ A 0 k2 < 0 by rw [← c53]; exact c23), e2, cpyB_n]) hP hD hS
                        · refine lv_iload hx hb dX12_copy_127 (lv_at hl 6 rfl) ?_
                          refine lv_if_eq (tgt := 142) hx hb dX12_copy_129 (by decide) (fun c129 => ?_) (fun c129 => absurd c129 (by decide))
                          refine lv_iload hx hb dX12_copy_142 (lv_at hl 7 rfl) ?_
                          refine lv_istore (lv' := [(8, .int (nI k)), (0, .ref h), (1, .int (nI k1)), (2, .int (nI i1)), (3, .int (nI k2)), (4, .int (nI j1)), (5, .int (nI n1)), (6, .int (nI 0)), (7, .int (nI k))]) hx hb dX12_copy_144 hl (by decide) rfl (fun ls hl => ?_)
                          refine lv_aload_n hx hb dX12_copy_146 rfl (lv_at hl 1 rfl) ?_
                          refine va_get (ci := 11) (v := .ref (r 2)) (C := RX12) (T := TX12) (N := 24) hx hb hts hinX12 hown hK hP 0 rfl rfl 2 (by decide) hf16 (fun _ h9 => h9) rfl dX12_copy_147 ?_
                          refine lv_bipush (v := nI 40) hx hb dX12_copy_150 (by decide) ?_
                          refine lv_iload_n hx hb dX12_copy_152 rfl (lv_at hl 4 rfl) ?_
                          refine muN (k := 40 * k2) hx hb rfl dX12_copy_153 ?_
                          refine lv_iload hx hb dX12_copy_154 (lv_at hl 5 rfl) ?_
                          refine adN (k := 40 * k2 + j1) hx hb rfl dX12_copy_156 ?_
                          refine lv_iload hx hb dX12_copy_157 (lv_at hl 0 rfl) ?_
                          refine adN (k := 40 * k2 + j1 + k) hx hb rfl dX12_copy_159 ?_
                          refine lv_aload_n hx hb dX12_copy_160 rfl (lv_at hl 1 rfl) ?_
                          refine va_get (ci := 11) (v := .ref (r 2)) (C := RX12) (T := TX12) (N := 24) hx hb hts hinX12 hown hK hP 0 rfl rfl 2 (by decide) hf16 (fun _ h9 => h9) rfl dX12_copy_161 ?_
                          refine lv_bipush (v := nI 40) hx hb dX12_copy_164 (by decide) ?_
                          refine lv_iload_n hx hb dX12_copy_166 rfl (lv_at hl 2 rfl) ?_
                          refine muN (k := 40 * k1) hx hb rfl dX12_copy_167 ?_
                          refine lv_iload_n hx hb dX12_copy_168 rfl (lv_at hl 3 rfl) ?_
                          refine adN (k := 40 * k1 + i1) hx hb rfl dX12_copy_169 ?_
                          refine lv_iload hx hb dX12_copy_170 (lv_at hl 0 rfl) ?_
                          refine adN (k := 40 * k1 + i1 + k) hx hb rfl dX12_copy_172 ?_
                          refine ldN (f := f2) hx hb hK hP 3 rfl (j := 40 * k1 + i1 + k) (by omega) (by decide) dX12_copy_173 ?_
                          refine stN (f := f2) (ws' := mW cy h r v (va_up A 2 (upd f2 (40 * k2 + j1 + k) (f2 (40 * k1 + i1 + k))))) hx hb hK hP hD hS 3 rfl (j := 40 * k2 + j1 + k) (by omega) (by decide) dX12_copy_174 rfl (fun H locs hP hD hS => ?_)
                          refine lv_iinc (v := nI (k + 1)) (lv' := [(7, .int (nI (k + 1))), (8, .int (nI k)), (0, .ref h), (1, .int (nI k1)), (2, .int (nI i1)), (3, .int (nI k2)), (4, .int (nI j1)), (5, .int (nI n1)), (6, .int (nI 0))]) hx hb dX12_copy_175 hl (k := 8) rfl (nI_1 _) (by decide) rfl (fun ls hl => ?_)
                          refine lv_goto (tgt := 120) hx hb dX12_copy_178 (by decide) ?_
                          exact ih120 (k + 1) (upd f2 (40 * k2 + j1 + k) (f2 (40 * k1 + i1 + k))) (by omega) (by omega) (by rw [e2]; exact cpyF_s _ (by omega)) _ _ hP hD hS ls (lv_sub hl [2, 3, 4, 5, 6, 7, 8, 0] rfl)
                    exact lp120 (n1 - 0 + 1) 0 (A 2) (by omega) (by omega) (cpyF_0 _ _ _).symm _ _ hP hD hS ls (lv_sub hl [2, 3, 4, 5, 6, 7, 1, 0] rfl)
                  · refine lv_iconst (v := nI 1) hx hb dX12_copy_110 (by decide) ?_
                    refine lv_goto (tgt := 115) hx hb dX12_copy_111 (by decide) ?_
                    refine lv_istore (lv' := [(6, .int (nI 1)), (0, .ref h), (1, .int (nI k1)), (2, .int (nI i1)), (3, .int (nI k2)), (4, .int (nI j1)), (5, .int (nI n1))]) hx hb dX12_copy_115 hl (by decide) rfl (fun ls hl => ?_)
                    refine lv_iconst (v := nI 0) hx hb dX12_copy_117 (by decide) ?_
                    refine lv_istore (lv' := [(7, .int (nI 0)), (6, .int (nI 1)), (0, .ref h), (1, .int (nI k1)), (2, .int (nI i1)), (3, .int (nI k2)), (4, .int (nI j1)), (5, .int (nI n1))]) hx hb dX12_copy_118 hl (by decide) rfl (fun ls hl => ?_)
                    have lp120 : ∀ f_ : Nat, ∀ (k : Nat) (f2 : Nat → Int32), (n1 - k) < f_ → (k ≤ n1) → (f2 = cpyB (A 2) (40 * k1 + i1) (40 * k2 + j1) n1 k) → ∀ (H : Heap) (locs : List Loc), va_P D vwCl (mW cy h r v (va_up A 2 f2)) H → va_D A_ (mW cy h r v (va_up A 2 f2)) → va_S A_ s_.heap H locs → ∀ ls : Array Slot, lv_has ls 9 [(0, .ref h), (1, .int (nI k1)), (2, .int (nI i1)), (3, .int (nI k2)), (4, .int (nI j1)), (5, .int (nI n1)), (6, .int (nI 1)), (7, .int (nI k))] → W p_ l e_ (rmD 2) s_ m_ args_ below_ meth_ c_ H locs 0 0 Q_ (F0 m_ 120 ls []) := by
                      intro f_
                      induction f_ with
                      | zero => intro k f2 hm_; exact absurd hm_ (by omega)
                      | succ f_ ih120 =>
                        intro k f2 hm_ hk e2 H locs hP hD hS ls hl
                        refine lv_iload hx hb dX12_copy_120 (lv_at hl 7 rfl) ?_
                        refine lv_iload hx hb dX12_copy_122 (lv_at hl 5 rfl) ?_
                        refine geN (tgt := 181) hx hb (by omega) (by omega) dX12_copy_124 (by decide) (fun c124 => ?_) (fun c124 => ?_)
                        · refine lv_aload_n hx hb dX12_copy_181 rfl (lv_at hl 0 rfl) ?_
                          refine lv_iload hx hb dX12_copy_182 (lv_at hl 5 rfl) ?_
                          refine call_i (wr := []) (ws' := (fun _ : Unit => mW cy h r (upd v 3 (nI 0)) (va_up A 2 f2))) (va_runV (As := [.int (nI n1)]) (rest := []) CF (k_X12_done l D cy _ h r v (va_up A 2 f2) (nI n1) ) (cwV 1 hts gX12_copy_X12_done rfl rfl rfl (by decide +kernel) ⟨Nat.le_of_ble_eq_true rfl, Nat.le_of_ble_eq_true rfl⟩) (pre_V hKN hP hD [0, 1, 2, 3, 4, 5, 6, 7, 8, 9, 10, 11, 12, 13, 14] rfl (by decide) 0 11 rfl rfl) rfl rfl hl.1 rfl (lv_room (Nat.le_of_ble_eq_true rfl)) dX12_copy_184 ⟨Nat.le_of_ble_eq_true rfl, Nat.le_of_ble_eq_true rfl⟩) hS hA hP hD [0, 1, 2, 3, 4, 5, 6, 7, 8, 9, 10, 11, 12, 13, 14] [] [0, 1, 2, 3, 4, 5, 6, 7, 8, 9, 10, 11, 12, 13, 14] rfl rfl (by decide) (by decide) (fun _ => rfl) (by decide) (fun r26 u25 H locs hw27 hP hD hS => ?_)
                          replace hw27 := hw27.symm; subst hw27
                          exact ret _ ((upd v 3 (nI 0)), (va_up A 2 f2)) _ _ _ _ dX12_copy_187 (by have hk9 : k = n1 := (by omega); subst hk9; simp (decide := true) [-not_and, -Int32.not_le, -Int32.not_lt, noOne, noDr, mCopy, isPrt, c4, e_k1, c11, e_k2, c23, c32, c53, c74, c90, e_i1, e_j1, e_n1, c124, Nat.not_lt_of_le c124, (show ¬ A 0 k2 < 0 by rw [← c53]; exact c23), e2, cpyB_n]) hP hD hS
                        · refine lv_iload hx hb dX12_copy_127 (lv_at hl 6 rfl) ?_
                          refine lv_if_eq (tgt := 142) hx hb dX12_copy_129 (by decide) (fun c129 => absurd c129 (by decide)) (fun c129 => ?_)
                          refine lv_iload hx hb dX12_copy_132 (lv_at hl 5 rfl) ?_
                          refine lv_iconst (v := nI 1) hx hb dX12_copy_134 (by decide) ?_
                          refine suN (k := n1 - 1) hx hb (by omega) dX12_copy_135 ?_
                          refine lv_iload hx hb dX12_copy_136 (lv_at hl 7 rfl) ?_
                          refine suN (k := n1 - 1 - k) hx hb (by omega) dX12_copy_138 ?_
                          refine lv_goto (tgt := 144) hx hb dX12_copy_139 (by decide) ?_
                          refine lv_istore (lv' := [(8, .int (nI (n1 - 1 - k))), (0, .ref h), (1, .int (nI k1)), (2, .int (nI i1)), (3, .int (nI k2)), (4, .int (nI j1)), (5, .int (nI n1)), (6, .int (nI 1)), (7, .int (nI k))]) hx hb dX12_copy_144 hl (by decide) rfl (fun ls hl => ?_)
                          refine lv_aload_n hx hb dX12_copy_146 rfl (lv_at hl 1 rfl) ?_
                          refine va_get (ci := 11) (v := .ref (r 2)) (C := RX12) (T := TX12) (N := 24) hx hb hts hinX12 hown hK hP 0 rfl rfl 2 (by decide) hf16 (fun _ h9 => h9) rfl dX12_copy_147 ?_
                          refine lv_bipush (v := nI 40) hx hb dX12_copy_150 (by decide) ?_
                          refine lv_iload_n hx hb dX12_copy_152 rfl (lv_at hl 4 rfl) ?_
                          refine muN (k := 40 * k2) hx hb rfl dX12_copy_153 ?_
                          refine lv_iload hx hb dX12_copy_154 (lv_at hl 5 rfl) ?_
                          refine adN (k := 40 * k2 + j1) hx hb rfl dX12_copy_156 ?_
                          refine lv_iload hx hb dX12_copy_157 (lv_at hl 0 rfl) ?_
                          refine adN (k := 40 * k2 + j1 + (n1 - 1 - k)) hx hb (by omega) dX12_copy_159 ?_
                          refine lv_aload_n hx hb dX12_copy_160 rfl (lv_at hl 1 rfl) ?_
                          refine va_get (ci := 11) (v := .ref (r 2)) (C := RX12) (T := TX12) (N := 24) hx hb hts hinX12 hown hK hP 0 rfl rfl 2 (by decide) hf16 (fun _ h9 => h9) rfl dX12_copy_161 ?_
                          refine lv_bipush (v := nI 40) hx hb dX12_copy_164 (by decide) ?_
                          refine lv_iload_n hx hb dX12_copy_166 rfl (lv_at hl 2 rfl) ?_
                          refine muN (k := 40 * k1) hx hb rfl dX12_copy_167 ?_
                          refine lv_iload_n hx hb dX12_copy_168 rfl (lv_at hl 3 rfl) ?_
                          refine adN (k := 40 * k1 + i1) hx hb rfl dX12_copy_169 ?_
                          refine lv_iload hx hb dX12_copy_170 (lv_at hl 0 rfl) ?_
                          refine adN (k := 40 * k1 + i1 + (n1 - 1 - k)) hx hb (by omega) dX12_copy_172 ?_
                          refine ldN (f := f2) hx hb hK hP 3 rfl (j := 40 * k1 + i1 + (n1 - 1 - k)) (by omega) (by decide) dX12_copy_173 ?_
                          refine stN (f := f2) (ws' := mW cy h r v (va_up A 2 (upd f2 (40 * k2 + j1 + (n1 - 1 - k)) (f2 (40 * k1 + i1 + (n1 - 1 - k)))))) hx hb hK hP hD hS 3 rfl (j := 40 * k2 + j1 + (n1 - 1 - k)) (by omega) (by decide) dX12_copy_174 rfl (fun H locs hP hD hS => ?_)
                          refine lv_iinc (v := nI (k + 1)) (lv' := [(7, .int (nI (k + 1))), (8, .int (nI (n1 - 1 - k))), (0, .ref h), (1, .int (nI k1)), (2, .int (nI i1)), (3, .int (nI k2)), (4, .int (nI j1)), (5, .int (nI n1)), (6, .int (nI 1))]) hx hb dX12_copy_175 hl (k := 8) rfl (nI_1 _) (by decide) rfl (fun ls hl => ?_)
                          refine lv_goto (tgt := 120) hx hb dX12_copy_178 (by decide) ?_
                          exact ih120 (k + 1) (upd f2 (40 * k2 + j1 + (n1 - 1 - k)) (f2 (40 * k1 + i1 + (n1 - 1 - k)))) (by omega) (by omega) (by rw [e2]; exact cpyB_s _ (by omega) (by omega)) _ _ hP hD hS ls (lv_sub hl [2, 3, 4, 5, 6, 7, 8, 0] rfl)
                    exact lp120 (n1 - 0 + 1) 0 (A 2) (by omega) (by omega) (cpyB_0 _ _ _ _).symm _ _ hP hD hS ls (lv_sub hl [2, 3, 4, 5, 6, 7, 1, 0] rfl)
              · refine lv_aload_n hx hb dX12_copy_93 rfl (lv_at hl 0 rfl) ?_
                refine lv_iconst (v := nI 2) hx hb dX12_copy_94 (by decide) ?_
                refine call_i (wr := []) (ws' := (fun _ : Unit => mW cy h r (upd v 3 (nI 2)) A)) (va_runV (As := [.int (nI 2)]) (rest := []) CF (k_X12_finds l D cy _ h r v A (nI 2) ) (cwV 1 hts gX12_copy_X12_finds rfl rfl rfl (by decide +kernel) ⟨Nat.le_of_ble_eq_true rfl, Nat.le_of_ble_eq_true rfl⟩) (pre_V hKN hP hD [0, 1, 2, 3, 4, 5, 6, 7, 8, 9, 10, 11, 12, 13, 14] rfl (by decide) 0 11 rfl rfl) rfl rfl hl.1 rfl (lv_room (Nat.le_of_ble_eq_true rfl)) dX12_copy_95 ⟨Nat.le_of_ble_eq_true rfl, Nat.le_of_ble_eq_true rfl⟩) hS hA hP hD [0, 1, 2, 3, 4, 5, 6, 7, 8, 9, 10, 11, 12, 13, 14] [] [0, 1, 2, 3, 4, 5, 6, 7, 8, 9, 10, 11, 12, 13, 14] rfl rfl (by decide) (by decide) (fun _ => rfl) (by decide) (fun r29 u28 H locs hw30 hP hD hS => ?_)
                replace hw30 := hw30.symm; subst hw30
                exact ret _ ((upd v 3 (nI 2)), A) _ _ _ _ dX12_copy_98 (by simp only [mCopy, cl, e_k1, e_k2]; rw [if_neg (fun h => h.elim (fun h => h c4) (fun h => h c11)), if_neg (fun h => h.elim c23 (fun h => h c32)), if_neg (fun h => h c53), if_pos (by first | exact Or.inl c74 | exact Or.inr c90)]; exact ⟨rfl, rfl⟩) hP hD hS
          · refine lv_aload_n hx hb dX12_copy_56 rfl (lv_at hl 0 rfl) ?_
            refine lv_iconst (v := nI 5) hx hb dX12_copy_57 (by decide) ?_
            refine call_i (wr := []) (ws' := (fun _ : Unit => mW cy h r (upd v 3 (nI 5)) A)) (va_runV (As := [.int (nI 5)]) (rest := []) CF (k_X12_finds l D cy _ h r v A (nI 5) ) (cwV 1 hts gX12_copy_X12_finds rfl rfl rfl (by decide +kernel) ⟨Nat.le_of_ble_eq_true rfl, Nat.le_of_ble_eq_true rfl⟩) (pre_V hKN hP hD [0, 1, 2, 3, 4, 5, 6, 7, 8, 9, 10, 11, 12, 13, 14] rfl (by decide) 0 11 rfl rfl) rfl rfl hl.1 rfl (lv_room (Nat.le_of_ble_eq_true rfl)) dX12_copy_58 ⟨Nat.le_of_ble_eq_true rfl, Nat.le_of_ble_eq_true rfl⟩) hS hA hP hD [0, 1, 2, 3, 4, 5, 6, 7, 8, 9, 10, 11, 12, 13, 14] [] [0, 1, 2, 3, 4, 5, 6, 7, 8, 9, 10, 11, 12, 13, 14] rfl rfl (by decide) (by decide) (fun _ => rfl) (by decide) (fun r32 u31 H locs hw33 hP hD hS => ?_)
            replace hw33 := hw33.symm; subst hw33
            exact ret _ ((upd v 3 (nI 5)), A) _ _ _ _ dX12_copy_61 (by simp [-not_and, -Int32.not_le, -Int32.not_lt, noOne, noDr, mCopy, c4, e_k1, c11, e_k2, c23, c32, c53]) hP hD hS
        · refine lv_aload_n hx hb dX12_copy_35 rfl (lv_at hl 0 rfl) ?_
          refine lv_iconst (v := nI 1) hx hb dX12_copy_36 (by decide) ?_
          refine call_i (wr := []) (ws' := (fun _ : Unit => mW cy h r (upd v 3 (nI 1)) A)) (va_runV (As := [.int (nI 1)]) (rest := []) CF (k_X12_finds l D cy _ h r v A (nI 1) ) (cwV 1 hts gX12_copy_X12_finds rfl rfl rfl (by decide +kernel) ⟨Nat.le_of_ble_eq_true rfl, Nat.le_of_ble_eq_true rfl⟩) (pre_V hKN hP hD [0, 1, 2, 3, 4, 5, 6, 7, 8, 9, 10, 11, 12, 13, 14] rfl (by decide) 0 11 rfl rfl) rfl rfl hl.1 rfl (lv_room (Nat.le_of_ble_eq_true rfl)) dX12_copy_37 ⟨Nat.le_of_ble_eq_true rfl, Nat.le_of_ble_eq_true rfl⟩) hS hA hP hD [0, 1, 2, 3, 4, 5, 6, 7, 8, 9, 10, 11, 12, 13, 14] [] [0, 1, 2, 3, 4, 5, 6, 7, 8, 9, 10, 11, 12, 13, 14] rfl rfl (by decide) (by decide) (fun _ => rfl) (by decide) (fun r35 u34 H locs hw36 hP hD hS => ?_)
          replace hw36 := hw36.symm; subst hw36
          exact ret _ ((upd v 3 (nI 1)), A) _ _ _ _ dX12_copy_40 (by simp [-not_and, -Int32.not_le, -Int32.not_lt, noOne, noDr, mCopy, c4, e_k1, c11, e_k2, c23, c32]) hP hD hS
    · refine lv_ldc hx hb hown hc66 dX12_copy_14 ?_
      exact ret _ (v, A) _ _ _ _ dX12_copy_16 (by simp [-not_and, -Int32.not_le, -Int32.not_lt, noOne, noDr, mCopy, c4, e_k1, c11]) hP hD hS
set_option maxHeartbeats 4000000 in
set_option maxRecDepth 100000 in
theorem k_X12_ahead (l : Launch) (D : va_G) (cy : Nat → ClassId) (sz : Nat) (h : Nat) (r : Nat → Nat) (v : Nat → Int32) (A : Nat → Nat → Int32) (n : Nat) (x : Int32) (d0 : Int32) (w0 : Int32) (hC : Cat (A 12) n) : Met l yX12_ahead wsX12_ahead (rmD 6) (pPre D (TY cy) (mW cy h r v A) sz [.ref h, .int x, .int d0, .int w0]) (pI D (TY cy) (mW cy h r v A) sz (fun A2 : Nat → Nat → Int32 => mW cy h r v A2) (fun (r_ : Int32) (u : (Nat → Nat → Int32)) => r_ = mAhead A n x d0 w0 ∧ scr u A)) 0 0 (va_A (mW cy h r v A) sz) := by
  refine ent_i (cc := cX12_ahead) (maxL := 4) (by decide +kernel) rfl (Nat.le_of_ble_eq_true rfl) ?_
  intro p_ e_ s_ m_ args_ below_ meth_ c_ A_ Q_ ls B0 ret
  obtain ⟨CF, hA, hKN, hP, hD, hl⟩ := B0
  have hK := hKN.1
  obtain ⟨hx, hb, hml, hown, hts⟩ := id CF
  have hS : va_S A_ s_.heap s_.heap [] := va_S.rf
  have hl : lv_has ls 4 [(0, .ref h), (1, .int x), (2, .int d0), (3, .int w0)] := hl
  have hc66 := hts (.constant RX12 66 (-1000001)) (by decide +kernel)
  have hf28 := hts (.fieldLink RX12 28 "DrawerCardsModel" "tried" "[I") (by decide +kernel)
  have hinX12 := show ∀ w ∈ u_ws RX12 TX12 24, w ∈ wsX12_ahead from by decide +kernel
  have hn := hC.2.1
  refine lv_aload_n hx hb dX12_ahead_0 rfl (lv_at hl 0 rfl) ?_
  refine lv_iload_n hx hb dX12_ahead_1 rfl (lv_at hl 1 rfl) ?_
  refine call_i (wr := []) (ws' := (fun _ : Unit => mW cy h r v A)) (va_runV (As := [.int x]) (rest := []) CF (k_X12_isOne l D cy _ h r v A x ) (cwV 1 hts gX12_ahead_X12_isOne rfl rfl rfl (by decide +kernel) ⟨Nat.le_of_ble_eq_true rfl, Nat.le_of_ble_eq_true rfl⟩) (pre_V hKN hP hD [0, 1, 2, 3, 4, 5, 6, 7, 8, 9, 10, 11, 12, 13, 14] rfl (by decide) 0 11 rfl rfl) rfl rfl hl.1 rfl (lv_room (Nat.le_of_ble_eq_true rfl)) dX12_ahead_2 ⟨Nat.le_of_ble_eq_true rfl, Nat.le_of_ble_eq_true rfl⟩) hS hA hP hD [0, 1, 2, 3, 4, 5, 6, 7, 8, 9, 10, 11, 12, 13, 14] [] [0, 1, 2, 3, 4, 5, 6, 7, 8, 9, 10, 11, 12, 13, 14] rfl rfl (by decide) (by decide) (fun _ => rfl) (by decide) (fun r2 u1 H locs hw3 hP hD hS => ?_)
  replace hw3 := hw3.symm; subst hw3
  refine ifeqB (tgt := 27) hx hb dX12_ahead_5 (by decide) (fun c5 => ?_) (fun c5 => ?_)
  · refine lv_ldc hx hb hown hc66 dX12_ahead_27 ?_
    exact ret _ A _ _ _ _ dX12_ahead_29 ⟨(by simp (decide := true) [-not_and, -Int32.not_le, -Int32.not_lt, noOne, noDr, mAhead, c5]), (fun j h1 h2 h3 h4 => by simp [va_up, h1, h2, h3, h4])⟩ hP hD hS
  · obtain ⟨k, h_k, rfl⟩ := rng' (m := n) (by omega) (by rw [← hC.1]; exact c5)
    have e_k : (nI k).toNatClampNeg = k := nI_clamp (by omega)
    refine lv_iload_n hx hb dX12_ahead_8 rfl (lv_at hl 2 rfl) ?_
    refine lv_iconst (v := nI 0) hx hb dX12_ahead_9 (by decide) ?_
    refine lv_bipush (v := nI 60) hx hb dX12_ahead_10 (by decide) ?_
    refine call_i (wr := [(h, .inr (11, mO r v)), ((r 0), wInt (cy 0) 8 (A 0)), ((r 1), wInt (cy 0) 8 (A 1)), ((r 2), wInt (cy 0) 320 (A 2)), ((r 5), wInt (cy 0) 60 (A 5)), ((r 12), wInt (cy 0) 37 (A 12)), ((r 13), wInt (cy 0) 37 (A 13)), ((r 14), wInt (cy 0) 37 (A 14)), ((r 15), wInt (cy 0) 37 (A 15)), ((r 16), wInt (cy 0) 74 (A 16)), ((r 17), wInt (cy 1) 2 (A 17)), ((r 18), wInt (cy 0) 888 (A 18)), ((r 20), wInt (cy 0) 16 (A 20)), ((r 22), wInt (cy 0) 16 (A 22)), ((r 23), wInt (cy 0) 24 (A 23))]) (ws' := (fun _ : Unit => mW cy h r v A)) (va_runS (As := [.int d0, .int (nI 0), .int (nI 60)]) (rest := []) CF (k_X12_in l D cy _ d0 (nI 0) (nI 60) ) (va_cwS 3 hts gX12_ahead_X12_in rfl rfl rfl (by decide +kernel) ⟨Nat.le_of_ble_eq_true rfl, Nat.le_of_ble_eq_true rfl⟩) (pre_S hKN hP hD [] rfl (by decide)) rfl rfl hl.1 rfl (lv_room (Nat.le_of_ble_eq_true rfl)) dX12_ahead_12 ⟨Nat.le_of_ble_eq_true rfl, Nat.le_of_ble_eq_true rfl⟩) hS hA hP hD [] [0, 1, 2, 3, 4, 5, 6, 7, 8, 9, 10, 11, 12, 13, 14] [0, 1, 2, 3, 4, 5, 6, 7, 8, 9, 10, 11, 12, 13, 14] rfl rfl (by decide) (by decide) (fun _ => rfl) (by decide) (fun r5 u4 H locs hw6 hP hD hS => ?_)
    replace hw6 := hw6.symm; subst hw6
    refine ifeqB (tgt := 27) hx hb dX12_ahead_15 (by decide) (fun c15 => ?_) (fun c15 => ?_)
    · refine lv_ldc hx hb hown hc66 dX12_ahead_27 ?_
      exact ret _ A _ _ _ _ dX12_ahead_29 ⟨(by simp (decide := true) [-not_and, -Int32.not_le, -Int32.not_lt, noOne, noDr, mAhead, c5, e_k, c15]), (fun j h1 h2 h3 h4 => by simp [va_up, h1, h2, h3, h4])⟩ hP hD hS
    · obtain ⟨dd, h_dd, rfl⟩ := rng (m := 60) (by decide) c15
      have e_dd : (nI dd).toNatClampNeg = dd := nI_clamp (by omega)
      refine lv_iload_n hx hb dX12_ahead_18 rfl (lv_at hl 3 rfl) ?_
      refine lv_iconst (v := nI 0) hx hb dX12_ahead_19 (by decide) ?_
      refine lv_iconst (v := nI 1) hx hb dX12_ahead_20 (by decide) ?_
      refine call_i (wr := [(h, .inr (11, mO r v)), ((r 0), wInt (cy 0) 8 (A 0)), ((r 1), wInt (cy 0) 8 (A 1)), ((r 2), wInt (cy 0) 320 (A 2)), ((r 5), wInt (cy 0) 60 (A 5)), ((r 12), wInt (cy 0) 37 (A 12)), ((r 13), wInt (cy 0) 37 (A 13)), ((r 14), wInt (cy 0) 37 (A 14)), ((r 15), wInt (cy 0) 37 (A 15)), ((r 16), wInt (cy 0) 74 (A 16)), ((r 17), wInt (cy 1) 2 (A 17)), ((r 18), wInt (cy 0) 888 (A 18)), ((r 20), wInt (cy 0) 16 (A 20)), ((r 22), wInt (cy 0) 16 (A 22)), ((r 23), wInt (cy 0) 24 (A 23))]) (ws' := (fun _ : Unit => mW cy h r v A)) (va_runS (As := [.int w0, .int (nI 0), .int (nI 1)]) (rest := []) CF (k_X12_in l D cy _ w0 (nI 0) (nI 1) ) (va_cwS 3 hts gX12_ahead_X12_in rfl rfl rfl (by decide +kernel) ⟨Nat.le_of_ble_eq_true rfl, Nat.le_of_ble_eq_true rfl⟩) (pre_S hKN hP hD [] rfl (by decide)) rfl rfl hl.1 rfl (lv_room (Nat.le_of_ble_eq_true rfl)) dX12_ahead_21 ⟨Nat.le_of_ble_eq_true rfl, Nat.le_of_ble_eq_true rfl⟩) hS hA hP hD [] [0, 1, 2, 3, 4, 5, 6, 7, 8, 9, 10, 11, 12, 13, 14] [0, 1, 2, 3, 4, 5, 6, 7, 8, 9, 10, 11, 12, 13, 14] rfl rfl (by decide) (by decide) (fun _ => rfl) (by decide) (fun r8 u7 H locs hw9 hP hD hS => ?_)
      replace hw9 := hw9.symm; subst hw9
      refine ifneB (tgt := 30) hx hb dX12_ahead_24 (by decide) (fun c24 => ?_) (fun c24 => ?_)
      · refine lv_aload_n hx hb dX12_ahead_30 rfl (lv_at hl 0 rfl) ?_
        refine call_v (wr := []) (ws' := (fun _ : Unit => mW cy h r v (va_up A 14 (A 12)))) (va_runV (As := []) (rest := []) CF (k_X12_begin l D cy _ h r v A ) (cwV 0 hts gX12_ahead_X12_begin rfl rfl rfl (by decide +kernel) ⟨Nat.le_of_ble_eq_true rfl, Nat.le_of_ble_eq_true rfl⟩) (pre_V hKN hP hD [0, 1, 2, 3, 4, 5, 6, 7, 8, 9, 10, 11, 12, 13, 14] rfl (by decide) 0 11 rfl rfl) rfl rfl hl.1 rfl (lv_room (Nat.le_of_ble_eq_true rfl)) dX12_ahead_31 ⟨Nat.le_of_ble_eq_true rfl, Nat.le_of_ble_eq_true rfl⟩) hS hA hP hD [0, 1, 2, 3, 4, 5, 6, 7, 8, 9, 10, 11, 12, 13, 14] [] [0, 1, 2, 3, 4, 5, 6, 7, 8, 9, 10, 11, 12, 13, 14] rfl rfl (by decide) (by decide) (fun _ => rfl) (by decide) (fun u10 H locs hw12 hP hD hS => ?_)
        refine lv_aload_n hx hb dX12_ahead_34 rfl (lv_at hl 0 rfl) ?_
        refine lv_iload_n hx hb dX12_ahead_35 rfl (lv_at hl 2 rfl) ?_
        refine call_v (wr := []) (ws' := (fun u13 : (Nat → Int32) => mW cy h r v (va_up A 14 u13))) (va_runV (As := [.int (nI dd)]) (rest := []) CF (k_X12_goOn l D cy _ h r v (va_up A 14 (A 12)) dd n (by first | assumption | omega | decide) hC) (cwV 1 hts gX12_ahead_X12_goOn rfl rfl rfl (by decide +kernel) ⟨Nat.le_of_ble_eq_true rfl, Nat.le_of_ble_eq_true rfl⟩) (pre_V hKN hP hD [0, 1, 2, 3, 4, 5, 6, 7, 8, 9, 10, 11, 12, 13, 14] rfl (by decide) 0 11 rfl rfl) rfl rfl hl.1 rfl (lv_room (Nat.le_of_ble_eq_true rfl)) dX12_ahead_36 ⟨Nat.le_of_ble_eq_true rfl, Nat.le_of_ble_eq_true rfl⟩) hS hA hP hD [0, 1, 2, 3, 4, 5, 6, 7, 8, 9, 10, 11, 12, 13, 14] [] [0, 1, 2, 3, 4, 5, 6, 7, 8, 9, 10, 11, 12, 13, 14] rfl rfl (by decide) (by decide) (fun _ => rfl) (by decide) (fun u13 H locs hw15 hP hD hS => ?_)
        replace hw15 := hw15.symm; subst hw15
        have hP : va_P D vwCl (mW cy h r v (va_up A 14 (nightsS ((A 12)) n dd))) H := hP
        have hD : va_D A_ (mW cy h r v (va_up A 14 (nightsS ((A 12)) n dd))) := hD
        refine lv_iload_n hx hb dX12_ahead_39 rfl (lv_at hl 3 rfl) ?_
        refine lv_if_ne (tgt := 55) hx hb dX12_ahead_40 (by decide) (fun c40 => ?_) (fun c40 => ?_)
        · refine lv_aload_n hx hb dX12_ahead_55 rfl (lv_at hl 0 rfl) ?_
          refine va_get (ci := 11) (v := .ref (r 14)) (C := RX12) (T := TX12) (N := 24) hx hb hts hinX12 hown hK hP 0 rfl rfl 14 (by decide) hf28 (fun _ h9 => h9) rfl dX12_ahead_56 ?_
          refine lv_bipush (v := nI 29) hx hb dX12_ahead_59 (by decide) ?_
          refine lv_iload_n hx hb dX12_ahead_61 rfl (lv_at hl 1 rfl) ?_
          refine adN (k := 29 + k) hx hb rfl dX12_ahead_62 ?_
          refine ldN (f := nightsS ((A 12)) n dd) hx hb hK hP 7 rfl (j := 29 + k) (by omega) (by decide) dX12_ahead_63 ?_
          exact ret _ (va_up A 14 (nightsS ((A 12)) n dd)) _ _ _ _ dX12_ahead_64 ⟨(by simp (decide := true) [-not_and, -Int32.not_le, -Int32.not_lt, noOne, noDr, mAhead, c5, e_k, c15, e_dd, c24, c40]), (fun j h1 h2 h3 h4 => by simp [va_up, h1, h2, h3, h4])⟩ hP hD hS
        · refine lv_aload_n hx hb dX12_ahead_43 rfl (lv_at hl 0 rfl) ?_
          refine va_get (ci := 11) (v := .ref (r 14)) (C := RX12) (T := TX12) (N := 24) hx hb hts hinX12 hown hK hP 0 rfl rfl 14 (by decide) hf28 (fun _ h9 => h9) rfl dX12_ahead_44 ?_
          refine lv_bipush (v := nI 21) hx hb dX12_ahead_47 (by decide) ?_
          refine lv_iload_n hx hb dX12_ahead_49 rfl (lv_at hl 1 rfl) ?_
          refine adN (k := 21 + k) hx hb rfl dX12_ahead_50 ?_
          refine ldN (f := nightsS ((A 12)) n dd) hx hb hK hP 7 rfl (j := 21 + k) (by omega) (by decide) dX12_ahead_51 ?_
          refine lv_goto (tgt := 64) hx hb dX12_ahead_52 (by decide) ?_
          exact ret _ (va_up A 14 (nightsS ((A 12)) n dd)) _ _ _ _ dX12_ahead_64 ⟨(by simp (decide := true) [-not_and, -Int32.not_le, -Int32.not_lt, noOne, noDr, mAhead, c5, e_k, c15, e_dd, c24, c40]), (fun j h1 h2 h3 h4 => by simp [va_up, h1, h2, h3, h4])⟩ hP hD hS
      · refine lv_ldc hx hb hown hc66 dX12_ahead_27 ?_
        exact ret _ A _ _ _ _ dX12_ahead_29 ⟨(by simp (decide := true) [-not_and, -Int32.not_le, -Int32.not_lt, noOne, noDr, mAhead, c5, e_k, c15, e_dd, c24]), (fun j h1 h2 h3 h4 => by simp [va_up, h1, h2, h3, h4])⟩ hP hD hS
set_option maxHeartbeats 4000000 in
set_option maxRecDepth 100000 in
theorem k_X12_found (l : Launch) (D : va_G) (cy : Nat → ClassId) (sz : Nat) (h : Nat) (r : Nat → Nat) (v : Nat → Int32) (A : Nat → Nat → Int32) (n : Nat) (x : Int32) (d0 : Int32) (hC : Cat (A 12) n) : Met l yX12_found wsX12_found (rmD 6) (pPre D (TY cy) (mW cy h r v A) sz [.ref h, .int x, .int d0]) (pI D (TY cy) (mW cy h r v A) sz (fun A2 : Nat → Nat → Int32 => mW cy h r v A2) (fun (r_ : Int32) (u : (Nat → Nat → Int32)) => r_ = mFound A n x d0 ∧ scr u A)) 0 0 (va_A (mW cy h r v A) sz) := by
  refine ent_i (cc := cX12_found) (maxL := 4) (by decide +kernel) rfl (Nat.le_of_ble_eq_true rfl) ?_
  intro p_ e_ s_ m_ args_ below_ meth_ c_ A_ Q_ ls B0 ret
  obtain ⟨CF, hA, hKN, hP, hD, hl⟩ := B0
  have hK := hKN.1
  obtain ⟨hx, hb, hml, hown, hts⟩ := id CF
  have hS : va_S A_ s_.heap s_.heap [] := va_S.rf
  have hl : lv_has ls 4 [(0, .ref h), (1, .int x), (2, .int d0)] := hl
  have hc66 := hts (.constant RX12 66 (-1000001)) (by decide +kernel)
  have hc137 := hts (.constant RX12 137 (-1000000)) (by decide +kernel)
  have hf28 := hts (.fieldLink RX12 28 "DrawerCardsModel" "tried" "[I") (by decide +kernel)
  have hinX12 := show ∀ w ∈ u_ws RX12 TX12 24, w ∈ wsX12_found from by decide +kernel
  have hn := hC.2.1
  refine lv_aload_n hx hb dX12_found_0 rfl (lv_at hl 0 rfl) ?_
  refine lv_iload_n hx hb dX12_found_1 rfl (lv_at hl 1 rfl) ?_
  refine call_i (wr := []) (ws' := (fun _ : Unit => mW cy h r v A)) (va_runV (As := [.int x]) (rest := []) CF (k_X12_isOne l D cy _ h r v A x ) (cwV 1 hts gX12_found_X12_isOne rfl rfl rfl (by decide +kernel) ⟨Nat.le_of_ble_eq_true rfl, Nat.le_of_ble_eq_true rfl⟩) (pre_V hKN hP hD [0, 1, 2, 3, 4, 5, 6, 7, 8, 9, 10, 11, 12, 13, 14] rfl (by decide) 0 11 rfl rfl) rfl rfl hl.1 rfl (lv_room (Nat.le_of_ble_eq_true rfl)) dX12_found_2 ⟨Nat.le_of_ble_eq_true rfl, Nat.le_of_ble_eq_true rfl⟩) hS hA hP hD [0, 1, 2, 3, 4, 5, 6, 7, 8, 9, 10, 11, 12, 13, 14] [] [0, 1, 2, 3, 4, 5, 6, 7, 8, 9, 10, 11, 12, 13, 14] rfl rfl (by decide) (by decide) (fun _ => rfl) (by decide) (fun r2 u1 H locs hw3 hP hD hS => ?_)
  replace hw3 := hw3.symm; subst hw3
  refine ifeqB (tgt := 16) hx hb dX12_found_5 (by decide) (fun c5 => ?_) (fun c5 => ?_)
  · refine lv_ldc hx hb hown hc66 dX12_found_16 ?_
    exact ret _ A _ _ _ _ dX12_found_18 ⟨(by simp [-not_and, -Int32.not_le, -Int32.not_lt, noOne, noDr, mFound, c5]), (fun j h1 h2 h3 h4 => by simp [va_up, h1, h2, h3, h4])⟩ hP hD hS
  · obtain ⟨k, h_k, rfl⟩ := rng' (m := n) (by omega) (by rw [← hC.1]; exact c5)
    have e_k : (nI k).toNatClampNeg = k := nI_clamp (by omega)
    refine lv_aload_n hx hb dX12_found_8 rfl (lv_at hl 0 rfl) ?_
    refine lv_iload_n hx hb dX12_found_9 rfl (lv_at hl 2 rfl) ?_
    refine call_i (wr := []) (ws' := (fun _ : Unit => mW cy h r v A)) (va_runV (As := [.int d0]) (rest := []) CF (k_X12_isDrawer l D cy _ h r v A d0 ) (cwV 1 hts gX12_found_X12_isDrawer rfl rfl rfl (by decide +kernel) ⟨Nat.le_of_ble_eq_true rfl, Nat.le_of_ble_eq_true rfl⟩) (pre_V hKN hP hD [0, 1, 2, 3, 4, 5, 6, 7, 8, 9, 10, 11, 12, 13, 14] rfl (by decide) 0 11 rfl rfl) rfl rfl hl.1 rfl (lv_room (Nat.le_of_ble_eq_true rfl)) dX12_found_10 ⟨Nat.le_of_ble_eq_true rfl, Nat.le_of_ble_eq_true rfl⟩) hS hA hP hD [0, 1, 2, 3, 4, 5, 6, 7, 8, 9, 10, 11, 12, 13, 14] [] [0, 1, 2, 3, 4, 5, 6, 7, 8, 9, 10, 11, 12, 13, 14] rfl rfl (by decide) (by decide) (fun _ => rfl) (by decide) (fun r5 u4 H locs hw6 hP hD hS => ?_)
    replace hw6 := hw6.symm; subst hw6
    refine ifneB (tgt := 19) hx hb dX12_found_13 (by decide) (fun c13 => ?_) (fun c13 => ?_)
    · refine lv_aload_n hx hb dX12_found_19 rfl (lv_at hl 0 rfl) ?_
      refine call_v (wr := []) (ws' := (fun _ : Unit => mW cy h r v (va_up A 14 (A 12)))) (va_runV (As := []) (rest := []) CF (k_X12_begin l D cy _ h r v A ) (cwV 0 hts gX12_found_X12_begin rfl rfl rfl (by decide +kernel) ⟨Nat.le_of_ble_eq_true rfl, Nat.le_of_ble_eq_true rfl⟩) (pre_V hKN hP hD [0, 1, 2, 3, 4, 5, 6, 7, 8, 9, 10, 11, 12, 13, 14] rfl (by decide) 0 11 rfl rfl) rfl rfl hl.1 rfl (lv_room (Nat.le_of_ble_eq_true rfl)) dX12_found_20 ⟨Nat.le_of_ble_eq_true rfl, Nat.le_of_ble_eq_true rfl⟩) hS hA hP hD [0, 1, 2, 3, 4, 5, 6, 7, 8, 9, 10, 11, 12, 13, 14] [] [0, 1, 2, 3, 4, 5, 6, 7, 8, 9, 10, 11, 12, 13, 14] rfl rfl (by decide) (by decide) (fun _ => rfl) (by decide) (fun u7 H locs hw9 hP hD hS => ?_)
      refine lv_iconst (v := nI 0) hx hb dX12_found_23 (by decide) ?_
      refine lv_istore_n (lv' := [(3, .int (nI 0)), (0, .ref h), (1, .int (nI k)), (2, .int d0)]) hx hb dX12_found_24 rfl hl (by decide) rfl (fun ls hl => ?_)
      have lp25 : ∀ f_ : Nat, ∀ (j : Nat) (f2 : Nat → Int32), (61 - j) < f_ → (j ≤ 61) → (Cat f2 n) → (f2 = nightsS (A 12) n j) → (foundN (A 12) n k d0 61 0 = foundN (A 12) n k d0 (61 - j) j) → ∀ (H : Heap) (locs : List Loc), va_P D vwCl (mW cy h r v (va_up A 14 f2)) H → va_D A_ (mW cy h r v (va_up A 14 f2)) → va_S A_ s_.heap H locs → ∀ ls : Array Slot, lv_has ls 4 [(0, .ref h), (1, .int (nI k)), (2, .int d0), (3, .int (nI j))] → W p_ l e_ (rmD 6) s_ m_ args_ below_ meth_ c_ H locs 0 0 Q_ (F0 m_ 25 ls []) := by
        intro f_
        induction f_ with
        | zero => intro j f2 hm_; exact absurd hm_ (by omega)
        | succ f_ ih25 =>
          intro j f2 hm_ hj hC2 e2 eF H locs hP hD hS ls hl
          refine lv_iload_n hx hb dX12_found_25 rfl (lv_at hl 3 rfl) ?_
          refine lv_bipush (v := nI 60) hx hb dX12_found_26 (by decide) ?_
          refine gtN (tgt := 57) hx hb (by omega) (by decide) dX12_found_28 (by decide) (fun c28 => ?_) (fun c28 => ?_)
          · refine lv_ldc hx hb hown hc137 dX12_found_57 ?_
            exact ret _ (va_up A 14 f2) _ _ _ _ dX12_found_59 ⟨(by rw [mFound, if_neg (fun h => h.elim (fun h => h c5) (fun h => h c13)), show cl (nI k) = k from e_k, eF, show j = 61 by omega]; rfl), (fun j h1 h2 h3 h4 => by simp [va_up, h1, h2, h3, h4])⟩ hP hD hS
          · refine lv_aload_n hx hb dX12_found_31 rfl (lv_at hl 0 rfl) ?_
            refine va_get (ci := 11) (v := .ref (r 14)) (C := RX12) (T := TX12) (N := 24) hx hb hts hinX12 hown hK hP 0 rfl rfl 14 (by decide) hf28 (fun _ h9 => h9) rfl dX12_found_32 ?_
            refine lv_bipush (v := nI 21) hx hb dX12_found_35 (by decide) ?_
            refine lv_iload_n hx hb dX12_found_37 rfl (lv_at hl 1 rfl) ?_
            refine adN (k := 21 + k) hx hb rfl dX12_found_38 ?_
            refine ldN (f := f2) hx hb hK hP 7 rfl (j := 21 + k) (by omega) (by decide) dX12_found_39 ?_
            refine lv_iload_n hx hb dX12_found_40 rfl (lv_at hl 2 rfl) ?_
            refine lv_icmp_ne (tgt := 46) hx hb dX12_found_41 (by decide) (fun c41 => ?_) (fun c41 => ?_)
            · refine lv_aload_n hx hb dX12_found_46 rfl (lv_at hl 0 rfl) ?_
              refine lv_iconst (v := nI 1) hx hb dX12_found_47 (by decide) ?_
              refine call_v (wr := []) (ws' := (fun u10 : (Nat → Int32) => mW cy h r v (va_up A 14 u10))) (va_runV (As := [.int (nI 1)]) (rest := []) CF (k_X12_goOn l D cy _ h r v (va_up A 14 f2) 1 n (by first | assumption | omega | decide) hC2) (cwV 1 hts gX12_found_X12_goOn rfl rfl rfl (by decide +kernel) ⟨Nat.le_of_ble_eq_true rfl, Nat.le_of_ble_eq_true rfl⟩) (pre_V hKN hP hD [0, 1, 2, 3, 4, 5, 6, 7, 8, 9, 10, 11, 12, 13, 14] rfl (by decide) 0 11 rfl rfl) rfl rfl hl.1 rfl (lv_room (Nat.le_of_ble_eq_true rfl)) dX12_found_48 ⟨Nat.le_of_ble_eq_true rfl, Nat.le_of_ble_eq_true rfl⟩) hS hA hP hD [0, 1, 2, 3, 4, 5, 6, 7, 8, 9, 10, 11, 12, 13, 14] [] [0, 1, 2, 3, 4, 5, 6, 7, 8, 9, 10, 11, 12, 13, 14] rfl rfl (by decide) (by decide) (fun _ => rfl) (by decide) (fun u10 H locs hw12 hP hD hS => ?_)
              replace hw12 := hw12.symm; subst hw12
              have hP : va_P D vwCl (mW cy h r v (va_up A 14 (nightsS (f2) n 1))) H := hP
              have hD : va_D A_ (mW cy h r v (va_up A 14 (nightsS (f2) n 1))) := hD
              refine lv_iinc (v := nI (j + 1)) (lv' := [(3, .int (nI (j + 1))), (0, .ref h), (1, .int (nI k)), (2, .int d0)]) hx hb dX12_found_51 hl (k := 3) rfl (nI_1 _) (by decide) rfl (fun ls hl => ?_)
              refine lv_goto (tgt := 25) hx hb dX12_found_54 (by decide) ?_
              exact ih25 (j + 1) (nightsS (f2) n 1) (by omega) (by omega) (hC2.night _) (by rw [e2]; rfl) (by rw [eF, foundN_at _ _ _ _ (by omega), if_neg (by rw [← e2]; exact c41)]) _ _ hP hD hS ls (lv_sub hl [1, 2, 3, 0] rfl)
            · refine lv_iload_n hx hb dX12_found_44 rfl (lv_at hl 3 rfl) ?_
              exact ret _ (va_up A 14 f2) _ _ _ _ dX12_found_45 ⟨(by rw [mFound, if_neg (fun h => h.elim (fun h => h c5) (fun h => h c13)), show cl (nI k) = k from e_k, eF, foundN_at _ _ _ _ (by omega), if_pos (by rw [← e2]; exact c41)]), (fun j h1 h2 h3 h4 => by simp [va_up, h1, h2, h3, h4])⟩ hP hD hS
      exact lp25 (61 - 0 + 1) 0 (A 12) (by omega) (by omega) hC rfl rfl _ _ hP hD hS ls (lv_sub hl [1, 2, 3, 0] rfl)
    · refine lv_ldc hx hb hown hc66 dX12_found_16 ?_
      exact ret _ A _ _ _ _ dX12_found_18 ⟨(by simp [-not_and, -Int32.not_le, -Int32.not_lt, noOne, noDr, mFound, c5, e_k, c13]), (fun j h1 h2 h3 h4 => by simp [va_up, h1, h2, h3, h4])⟩ hP hD hS
set_option maxHeartbeats 4000000 in
set_option maxRecDepth 100000 in
theorem k_X12_isAsB (l : Launch) (D : va_G) (cy : Nat → ClassId) (sz : Nat) (h : Nat) (r : Nat → Nat) (v : Nat → Int32) (A : Nat → Nat → Int32) (n : Nat) (hC : Cat (A 12) n) : Met l yX12_isAs wsX12_isAs (rmD 0) (pPre D (TY cy) (mW cy h r v A) sz [.ref h, .ref (r 15)]) (pI D (TY cy) (mW cy h r v A) sz (fun _ : Unit => mW cy h r v A) (fun (r_ : Int32) (_ : Unit) => r_ = bI (asNb (A 14) (A 15) n = true))) 0 0 (va_A (mW cy h r v A) sz) := by
  refine ent_z (cc := cX12_isAs) (maxL := 4) (by decide +kernel) rfl (Nat.le_of_ble_eq_true rfl) ?_
  intro p_ e_ s_ m_ args_ below_ meth_ c_ A_ Q_ ls B0 ret
  obtain ⟨CF, hA, hKN, hP, hD, hl⟩ := B0
  have hK := hKN.1
  obtain ⟨hx, hb, hml, hown, hts⟩ := id CF
  have hS : va_S A_ s_.heap s_.heap [] := va_S.rf
  have hl : lv_has ls 4 [(0, .ref h), (1, .ref (r 15))] := hl
  have hf22 := hts (.fieldLink RX12 22 "DrawerCardsModel" "now" "[I") (by decide +kernel)
  have hinX12 := show ∀ w ∈ u_ws RX12 TX12 24, w ∈ wsX12_isAs from by decide +kernel
  have hf28 := hts (.fieldLink RX12 28 "DrawerCardsModel" "tried" "[I") (by decide +kernel)
  have hn := hC.2.1
  refine lv_iconst (v := nI 1) hx hb dX12_isAs_0 (by decide) ?_
  refine lv_istore_n (lv' := [(2, .int (nI 1)), (0, .ref h), (1, .ref (r 15))]) hx hb dX12_isAs_1 rfl hl (by decide) rfl (fun ls hl => ?_)
  refine lv_iconst (v := nI 0) hx hb dX12_isAs_2 (by decide) ?_
  refine lv_istore_n (lv' := [(3, .int (nI 0)), (2, .int (nI 1)), (0, .ref h), (1, .ref (r 15))]) hx hb dX12_isAs_3 rfl hl (by decide) rfl (fun ls hl => ?_)
  have lp4 : ∀ f_ : Nat, ∀ (i : Nat) (x2 : Int32), (n - i) < f_ → (i ≤ n) → (x2 = bI (asNb (A 14) (A 15) i = true)) → ∀ (H : Heap) (locs : List Loc), va_P D vwCl (mW cy h r v A) H → va_D A_ (mW cy h r v A) → va_S A_ s_.heap H locs → ∀ ls : Array Slot, lv_has ls 4 [(0, .ref h), (1, .ref (r 15)), (2, .int x2), (3, .int (nI i))] → W p_ l e_ (rmD 0) s_ m_ args_ below_ meth_ c_ H locs 0 0 Q_ (F0 m_ 4 ls []) := by
    intro f_
    induction f_ with
    | zero => intro i x2 hm_; exact absurd hm_ (by omega)
    | succ f_ ih4 =>
      intro i x2 hm_ hi e2 H locs hP hD hS ls hl
      refine lv_iload_n hx hb dX12_isAs_4 rfl (lv_at hl 3 rfl) ?_
      refine lv_aload_n hx hb dX12_isAs_5 rfl (lv_at hl 0 rfl) ?_
      refine va_get (ci := 11) (v := .ref (r 12)) (C := RX12) (T := TX12) (N := 24) hx hb hts hinX12 hown hK hP 0 rfl rfl 12 (by decide) hf22 (fun _ h9 => h9) rfl dX12_isAs_6 ?_
      refine lv_iconst (v := nI 3) hx hb dX12_isAs_9 (by decide) ?_
      refine ldN (f := (A 12)) hx hb hK hP 5 rfl (j := 3) (by omega) (by decide) dX12_isAs_10 ?_
      refine top_i hC.1 ?_
      refine geN (tgt := 66) hx hb (by omega) (by omega) dX12_isAs_11 (by decide) (fun c11 => ?_) (fun c11 => ?_)
      · refine lv_iload_n hx hb dX12_isAs_66 rfl (lv_at hl 2 rfl) ?_
        exact ret _ () _ _ _ _ dX12_isAs_67 (by rw [e2]; exact bI_nar) (by rw [e2, show i = n by omega]) hP hD hS
      · refine lv_iload_n hx hb dX12_isAs_14 rfl (lv_at hl 2 rfl) ?_
        refine lv_if_eq (tgt := 58) hx hb dX12_isAs_15 (by decide) (fun c15 => ?_) (fun c15 => ?_)
        · refine lv_iconst (v := nI 0) hx hb dX12_isAs_58 (by decide) ?_
          refine lv_istore_n (lv' := [(2, .int (nI 0)), (0, .ref h), (1, .ref (r 15)), (3, .int (nI i))]) hx hb dX12_isAs_59 rfl hl (by decide) rfl (fun ls hl => ?_)
          refine lv_iinc (v := nI (i + 1)) (lv' := [(3, .int (nI (i + 1))), (2, .int (nI 0)), (0, .ref h), (1, .ref (r 15))]) hx hb dX12_isAs_60 hl (k := 3) rfl (nI_1 _) (by decide) rfl (fun ls hl => ?_)
          refine lv_goto (tgt := 4) hx hb dX12_isAs_63 (by decide) ?_
          exact ih4 (i + 1) (nI 0) (by omega) (by omega) (by first | exact asb0 e2 c15 | exact asb1 c33 | exact asb2 c51 | exact asb3 e2 c15 c33 c51) _ _ hP hD hS ls (lv_sub hl [2, 3, 1, 0] rfl)
        · refine lv_aload_n hx hb dX12_isAs_18 rfl (lv_at hl 0 rfl) ?_
          refine va_get (ci := 11) (v := .ref (r 14)) (C := RX12) (T := TX12) (N := 24) hx hb hts hinX12 hown hK hP 0 rfl rfl 14 (by decide) hf28 (fun _ h9 => h9) rfl dX12_isAs_19 ?_
          refine lv_bipush (v := nI 21) hx hb dX12_isAs_22 (by decide) ?_
          refine lv_iload_n hx hb dX12_isAs_24 rfl (lv_at hl 3 rfl) ?_
          refine adN (k := 21 + i) hx hb rfl dX12_isAs_25 ?_
          refine ldN (f := (A 14)) hx hb hK hP 7 rfl (j := 21 + i) (by omega) (by decide) dX12_isAs_26 ?_
          refine lv_aload_n hx hb dX12_isAs_27 rfl (lv_at hl 1 rfl) ?_
          refine lv_bipush (v := nI 21) hx hb dX12_isAs_28 (by decide) ?_
          refine lv_iload_n hx hb dX12_isAs_30 rfl (lv_at hl 3 rfl) ?_
          refine adN (k := 21 + i) hx hb rfl dX12_isAs_31 ?_
          refine ldN (f := (A 15)) hx hb hK hP 8 rfl (j := 21 + i) (by omega) (by decide) dX12_isAs_32 ?_
          refine lv_icmp_ne (tgt := 58) hx hb dX12_isAs_33 (by decide) (fun c33 => ?_) (fun c33 => ?_)
          · refine lv_iconst (v := nI 0) hx hb dX12_isAs_58 (by decide) ?_
            refine lv_istore_n (lv' := [(2, .int (nI 0)), (0, .ref h), (1, .ref (r 15)), (3, .int (nI i))]) hx hb dX12_isAs_59 rfl hl (by decide) rfl (fun ls hl => ?_)
            refine lv_iinc (v := nI (i + 1)) (lv' := [(3, .int (nI (i + 1))), (2, .int (nI 0)), (0, .ref h), (1, .ref (r 15))]) hx hb dX12_isAs_60 hl (k := 3) rfl (nI_1 _) (by decide) rfl (fun ls hl => ?_)
            refine lv_goto (tgt := 4) hx hb dX12_isAs_63 (by decide) ?_
            exact ih4 (i + 1) (nI 0) (by omega) (by omega) (by first | exact asb0 e2 c15 | exact asb1 c33 | exact asb2 c51 | exact asb3 e2 c15 c33 c51) _ _ hP hD hS ls (lv_sub hl [2, 3, 1, 0] rfl)
          · refine lv_aload_n hx hb dX12_isAs_36 rfl (lv_at hl 0 rfl) ?_
            refine va_get (ci := 11) (v := .ref (r 14)) (C := RX12) (T := TX12) (N := 24) hx hb hts hinX12 hown hK hP 0 rfl rfl 14 (by decide) hf28 (fun _ h9 => h9) rfl dX12_isAs_37 ?_
            refine lv_bipush (v := nI 29) hx hb dX12_isAs_40 (by decide) ?_
            refine lv_iload_n hx hb dX12_isAs_42 rfl (lv_at hl 3 rfl) ?_
            refine adN (k := 29 + i) hx hb rfl dX12_isAs_43 ?_
            refine ldN (f := (A 14)) hx hb hK hP 7 rfl (j := 29 + i) (by omega) (by decide) dX12_isAs_44 ?_
            refine lv_aload_n hx hb dX12_isAs_45 rfl (lv_at hl 1 rfl) ?_
            refine lv_bipush (v := nI 29) hx hb dX12_isAs_46 (by decide) ?_
            refine lv_iload_n hx hb dX12_isAs_48 rfl (lv_at hl 3 rfl) ?_
            refine adN (k := 29 + i) hx hb rfl dX12_isAs_49 ?_
            refine ldN (f := (A 15)) hx hb hK hP 8 rfl (j := 29 + i) (by omega) (by decide) dX12_isAs_50 ?_
            refine lv_icmp_ne (tgt := 58) hx hb dX12_isAs_51 (by decide) (fun c51 => ?_) (fun c51 => ?_)
            · refine lv_iconst (v := nI 0) hx hb dX12_isAs_58 (by decide) ?_
              refine lv_istore_n (lv' := [(2, .int (nI 0)), (0, .ref h), (1, .ref (r 15)), (3, .int (nI i))]) hx hb dX12_isAs_59 rfl hl (by decide) rfl (fun ls hl => ?_)
              refine lv_iinc (v := nI (i + 1)) (lv' := [(3, .int (nI (i + 1))), (2, .int (nI 0)), (0, .ref h), (1, .ref (r 15))]) hx hb dX12_isAs_60 hl (k := 3) rfl (nI_1 _) (by decide) rfl (fun ls hl => ?_)
              refine lv_goto (tgt := 4) hx hb dX12_isAs_63 (by decide) ?_
              exact ih4 (i + 1) (nI 0) (by omega) (by omega) (by first | exact asb0 e2 c15 | exact asb1 c33 | exact asb2 c51 | exact asb3 e2 c15 c33 c51) _ _ hP hD hS ls (lv_sub hl [2, 3, 1, 0] rfl)
            · refine lv_iconst (v := nI 1) hx hb dX12_isAs_54 (by decide) ?_
              refine lv_goto (tgt := 59) hx hb dX12_isAs_55 (by decide) ?_
              refine lv_istore_n (lv' := [(2, .int (nI 1)), (0, .ref h), (1, .ref (r 15)), (3, .int (nI i))]) hx hb dX12_isAs_59 rfl hl (by decide) rfl (fun ls hl => ?_)
              refine lv_iinc (v := nI (i + 1)) (lv' := [(3, .int (nI (i + 1))), (2, .int (nI 1)), (0, .ref h), (1, .ref (r 15))]) hx hb dX12_isAs_60 hl (k := 3) rfl (nI_1 _) (by decide) rfl (fun ls hl => ?_)
              refine lv_goto (tgt := 4) hx hb dX12_isAs_63 (by decide) ?_
              exact ih4 (i + 1) (nI 1) (by omega) (by omega) (by first | exact asb0 e2 c15 | exact asb1 c33 | exact asb2 c51 | exact asb3 e2 c15 c33 c51) _ _ hP hD hS ls (lv_sub hl [2, 3, 1, 0] rfl)
  exact lp4 (n - 0 + 1) 0 (nI 1) (by omega) (by omega) rfl _ _ hP hD hS ls (lv_sub hl [2, 3, 1, 0] rfl)
set_option maxHeartbeats 4000000 in
set_option maxRecDepth 100000 in
theorem k_X12_isAsN (l : Launch) (D : va_G) (cy : Nat → ClassId) (sz : Nat) (h : Nat) (r : Nat → Nat) (v : Nat → Int32) (A : Nat → Nat → Int32) (n : Nat) (hC : Cat (A 12) n) : Met l yX12_isAs wsX12_isAs (rmD 0) (pPre D (TY cy) (mW cy h r v A) sz [.ref h, .ref (r 12)]) (pI D (TY cy) (mW cy h r v A) sz (fun _ : Unit => mW cy h r v A) (fun (r_ : Int32) (_ : Unit) => r_ = bI (asNb (A 14) (A 12) n = true))) 0 0 (va_A (mW cy h r v A) sz) := by
  refine ent_z (cc := cX12_isAs) (maxL := 4) (by decide +kernel) rfl (Nat.le_of_ble_eq_true rfl) ?_
  intro p_ e_ s_ m_ args_ below_ meth_ c_ A_ Q_ ls B0 ret
  obtain ⟨CF, hA, hKN, hP, hD, hl⟩ := B0
  have hK := hKN.1
  obtain ⟨hx, hb, hml, hown, hts⟩ := id CF
  have hS : va_S A_ s_.heap s_.heap [] := va_S.rf
  have hl : lv_has ls 4 [(0, .ref h), (1, .ref (r 12))] := hl
  have hf22 := hts (.fieldLink RX12 22 "DrawerCardsModel" "now" "[I") (by decide +kernel)
  have hinX12 := show ∀ w ∈ u_ws RX12 TX12 24, w ∈ wsX12_isAs from by decide +kernel
  have hf28 := hts (.fieldLink RX12 28 "DrawerCardsModel" "tried" "[I") (by decide +kernel)
  have hn := hC.2.1
  refine lv_iconst (v := nI 1) hx hb dX12_isAs_0 (by decide) ?_
  refine lv_istore_n (lv' := [(2, .int (nI 1)), (0, .ref h), (1, .ref (r 12))]) hx hb dX12_isAs_1 rfl hl (by decide) rfl (fun ls hl => ?_)
  refine lv_iconst (v := nI 0) hx hb dX12_isAs_2 (by decide) ?_
  refine lv_istore_n (lv' := [(3, .int (nI 0)), (2, .int (nI 1)), (0, .ref h), (1, .ref (r 12))]) hx hb dX12_isAs_3 rfl hl (by decide) rfl (fun ls hl => ?_)
  have lp4 : ∀ f_ : Nat, ∀ (i : Nat) (x2 : Int32), (n - i) < f_ → (i ≤ n) → (x2 = bI (asNb (A 14) (A 12) i = true)) → ∀ (H : Heap) (locs : List Loc), va_P D vwCl (mW cy h r v A) H → va_D A_ (mW cy h r v A) → va_S A_ s_.heap H locs → ∀ ls : Array Slot, lv_has ls 4 [(0, .ref h), (1, .ref (r 12)), (2, .int x2), (3, .int (nI i))] → W p_ l e_ (rmD 0) s_ m_ args_ below_ meth_ c_ H locs 0 0 Q_ (F0 m_ 4 ls []) := by
    intro f_
    induction f_ with
    | zero => intro i x2 hm_; exact absurd hm_ (by omega)
    | succ f_ ih4 =>
      intro i x2 hm_ hi e2 H locs hP hD hS ls hl
      refine lv_iload_n hx hb dX12_isAs_4 rfl (lv_at hl 3 rfl) ?_
      refine lv_aload_n hx hb dX12_isAs_5 rfl (lv_at hl 0 rfl) ?_
      refine va_get (ci := 11) (v := .ref (r 12)) (C := RX12) (T := TX12) (N := 24) hx hb hts hinX12 hown hK hP 0 rfl rfl 12 (by decide) hf22 (fun _ h9 => h9) rfl dX12_isAs_6 ?_
      refine lv_iconst (v := nI 3) hx hb dX12_isAs_9 (by decide) ?_
      refine ldN (f := (A 12)) hx hb hK hP 5 rfl (j := 3) (by omega) (by decide) dX12_isAs_10 ?_
      refine top_i hC.1 ?_
      refine geN (tgt := 66) hx hb (by omega) (by omega) dX12_isAs_11 (by decide) (fun c11 => ?_) (fun c11 => ?_)
      · refine lv_iload_n hx hb dX12_isAs_66 rfl (lv_at hl 2 rfl) ?_
        exact ret _ () _ _ _ _ dX12_isAs_67 (by rw [e2]; exact bI_nar) (by rw [e2, show i = n by omega]) hP hD hS
      · refine lv_iload_n hx hb dX12_isAs_14 rfl (lv_at hl 2 rfl) ?_
        refine lv_if_eq (tgt := 58) hx hb dX12_isAs_15 (by decide) (fun c15 => ?_) (fun c15 => ?_)
        · refine lv_iconst (v := nI 0) hx hb dX12_isAs_58 (by decide) ?_
          refine lv_istore_n (lv' := [(2, .int (nI 0)), (0, .ref h), (1, .ref (r 12)), (3, .int (nI i))]) hx hb dX12_isAs_59 rfl hl (by decide) rfl (fun ls hl => ?_)
          refine lv_iinc (v := nI (i + 1)) (lv' := [(3, .int (nI (i + 1))), (2, .int (nI 0)), (0, .ref h), (1, .ref (r 12))]) hx hb dX12_isAs_60 hl (k := 3) rfl (nI_1 _) (by decide) rfl (fun ls hl => ?_)
          refine lv_goto (tgt := 4) hx hb dX12_isAs_63 (by decide) ?_
          exact ih4 (i + 1) (nI 0) (by omega) (by omega) (by first | exact asb0 e2 c15 | exact asb1 c33 | exact asb2 c51 | exact asb3 e2 c15 c33 c51) _ _ hP hD hS ls (lv_sub hl [2, 3, 1, 0] rfl)
        · refine lv_aload_n hx hb dX12_isAs_18 rfl (lv_at hl 0 rfl) ?_
          refine va_get (ci := 11) (v := .ref (r 14)) (C := RX12) (T := TX12) (N := 24) hx hb hts hinX12 hown hK hP 0 rfl rfl 14 (by decide) hf28 (fun _ h9 => h9) rfl dX12_isAs_19 ?_
          refine lv_bipush (v := nI 21) hx hb dX12_isAs_22 (by decide) ?_
          refine lv_iload_n hx hb dX12_isAs_24 rfl (lv_at hl 3 rfl) ?_
          refine adN (k := 21 + i) hx hb rfl dX12_isAs_25 ?_
          refine ldN (f := (A 14)) hx hb hK hP 7 rfl (j := 21 + i) (by omega) (by decide) dX12_isAs_26 ?_
          refine lv_aload_n hx hb dX12_isAs_27 rfl (lv_at hl 1 rfl) ?_
          refine lv_bipush (v := nI 21) hx hb dX12_isAs_28 (by decide) ?_
          refine lv_iload_n hx hb dX12_isAs_30 rfl (lv_at hl 3 rfl) ?_
          refine adN (k := 21 + i) hx hb rfl dX12_isAs_31 ?_
          refine ldN (f := (A 12)) hx hb hK hP 5 rfl (j := 21 + i) (by omega) (by decide) dX12_isAs_32 ?_
          refine lv_icmp_ne (tgt := 58) hx hb dX12_isAs_33 (by decide) (fun c33 => ?_) (fun c33 => ?_)
          · refine lv_iconst (v := nI 0) hx hb dX12_isAs_58 (by decide) ?_
            refine lv_istore_n (lv' := [(2, .int (nI 0)), (0, .ref h), (1, .ref (r 12)), (3, .int (nI i))]) hx hb dX12_isAs_59 rfl hl (by decide) rfl (fun ls hl => ?_)
            refine lv_iinc (v := nI (i + 1)) (lv' := [(3, .int (nI (i + 1))), (2, .int (nI 0)), (0, .ref h), (1, .ref (r 12))]) hx hb dX12_isAs_60 hl (k := 3) rfl (nI_1 _) (by decide) rfl (fun ls hl => ?_)
            refine lv_goto (tgt := 4) hx hb dX12_isAs_63 (by decide) ?_
            exact ih4 (i + 1) (nI 0) (by omega) (by omega) (by first | exact asb0 e2 c15 | exact asb1 c33 | exact asb2 c51 | exact asb3 e2 c15 c33 c51) _ _ hP hD hS ls (lv_sub hl [2, 3, 1, 0] rfl)
          · refine lv_aload_n hx hb dX12_isAs_36 rfl (lv_at hl 0 rfl) ?_
            refine va_get (ci := 11) (v := .ref (r 14)) (C := RX12) (T := TX12) (N := 24) hx hb hts hinX12 hown hK hP 0 rfl rfl 14 (by decide) hf28 (fun _ h9 => h9) rfl dX12_isAs_37 ?_
            refine lv_bipush (v := nI 29) hx hb dX12_isAs_40 (by decide) ?_
            refine lv_iload_n hx hb dX12_isAs_42 rfl (lv_at hl 3 rfl) ?_
            refine adN (k := 29 + i) hx hb rfl dX12_isAs_43 ?_
            refine ldN (f := (A 14)) hx hb hK hP 7 rfl (j := 29 + i) (by omega) (by decide) dX12_isAs_44 ?_
            refine lv_aload_n hx hb dX12_isAs_45 rfl (lv_at hl 1 rfl) ?_
            refine lv_bipush (v := nI 29) hx hb dX12_isAs_46 (by decide) ?_
            refine lv_iload_n hx hb dX12_isAs_48 rfl (lv_at hl 3 rfl) ?_
            refine adN (k := 29 + i) hx hb rfl dX12_isAs_49 ?_
            refine ldN (f := (A 12)) hx hb hK hP 5 rfl (j := 29 + i) (by omega) (by decide) dX12_isAs_50 ?_
            refine lv_icmp_ne (tgt := 58) hx hb dX12_isAs_51 (by decide) (fun c51 => ?_) (fun c51 => ?_)
            · refine lv_iconst (v := nI 0) hx hb dX12_isAs_58 (by decide) ?_
              refine lv_istore_n (lv' := [(2, .int (nI 0)), (0, .ref h), (1, .ref (r 12)), (3, .int (nI i))]) hx hb dX12_isAs_59 rfl hl (by decide) rfl (fun ls hl => ?_)
              refine lv_iinc (v := nI (i + 1)) (lv' := [(3, .int (nI (i + 1))), (2, .int (nI 0)), (0, .ref h), (1, .ref (r 12))]) hx hb dX12_isAs_60 hl (k := 3) rfl (nI_1 _) (by decide) rfl (fun ls hl => ?_)
              refine lv_goto (tgt := 4) hx hb dX12_isAs_63 (by decide) ?_
              exact ih4 (i + 1) (nI 0) (by omega) (by omega) (by first | exact asb0 e2 c15 | exact asb1 c33 | exact asb2 c51 | exact asb3 e2 c15 c33 c51) _ _ hP hD hS ls (lv_sub hl [2, 3, 1, 0] rfl)
            · refine lv_iconst (v := nI 1) hx hb dX12_isAs_54 (by decide) ?_
              refine lv_goto (tgt := 59) hx hb dX12_isAs_55 (by decide) ?_
              refine lv_istore_n (lv' := [(2, .int (nI 1)), (0, .ref h), (1, .ref (r 12)), (3, .int (nI i))]) hx hb dX12_isAs_59 rfl hl (by decide) rfl (fun ls hl => ?_)
              refine lv_iinc (v := nI (i + 1)) (lv' := [(3, .int (nI (i + 1))), (2, .int (nI 1)), (0, .ref h), (1, .ref (r 12))]) hx hb dX12_isAs_60 hl (k := 3) rfl (nI_1 _) (by decide) rfl (fun ls hl => ?_)
              refine lv_goto (tgt := 4) hx hb dX12_isAs_63 (by decide) ?_
              exact ih4 (i + 1) (nI 1) (by omega) (by omega) (by first | exact asb0 e2 c15 | exact asb1 c33 | exact asb2 c51 | exact asb3 e2 c15 c33 c51) _ _ hP hD hS ls (lv_sub hl [2, 3, 1, 0] rfl)
  exact lp4 (n - 0 + 1) 0 (nI 1) (by omega) (by omega) rfl _ _ hP hD hS ls (lv_sub hl [2, 3, 1, 0] rfl)
set_option maxHeartbeats 4000000 in
set_option maxRecDepth 100000 in
theorem k_X12_still (l : Launch) (D : va_G) (cy : Nat → ClassId) (sz : Nat) (h : Nat) (r : Nat → Nat) (v : Nat → Int32) (A : Nat → Nat → Int32) (n : Nat) (w0 : Int32) (hC : Cat (A 12) n) : Met l yX12_still wsX12_still (rmD 6) (pPre D (TY cy) (mW cy h r v A) sz [.ref h, .int w0]) (pI D (TY cy) (mW cy h r v A) sz (fun A2 : Nat → Nat → Int32 => mW cy h r v A2) (fun (r_ : Int32) (u : (Nat → Nat → Int32)) => r_ = mStil A n w0 ∧ scr u A)) 0 0 (va_A (mW cy h r v A) sz) := by
  refine ent_i (cc := cX12_still) (maxL := 3) (by decide +kernel) rfl (Nat.le_of_ble_eq_true rfl) ?_
  intro p_ e_ s_ m_ args_ below_ meth_ c_ A_ Q_ ls B0 ret
  obtain ⟨CF, hA, hKN, hP, hD, hl⟩ := B0
  have hK := hKN.1
  obtain ⟨hx, hb, hml, hown, hts⟩ := id CF
  have hS : va_S A_ s_.heap s_.heap [] := va_S.rf
  have hl : lv_has ls 3 [(0, .ref h), (1, .int w0)] := hl
  have hc137 := hts (.constant RX12 137 (-1000000)) (by decide +kernel)
  have hf28 := hts (.fieldLink RX12 28 "DrawerCardsModel" "tried" "[I") (by decide +kernel)
  have hinX12 := show ∀ w ∈ u_ws RX12 TX12 24, w ∈ wsX12_still from by decide +kernel
  have hf31 := hts (.fieldLink RX12 31 "DrawerCardsModel" "before" "[I") (by decide +kernel)
  have hf22 := hts (.fieldLink RX12 22 "DrawerCardsModel" "now" "[I") (by decide +kernel)
  have hc66 := hts (.constant RX12 66 (-1000001)) (by decide +kernel)
  have hc172 := hts (.constant RX12 172 (-1000002)) (by decide +kernel)
  have hn := hC.2.1
  refine lv_aload_n hx hb dX12_still_0 rfl (lv_at hl 0 rfl) ?_
  refine call_i (wr := []) (ws' := (fun _ : Unit => mW cy h r v A)) (va_runV (As := []) (rest := []) CF (k_X12_isThere l D cy _ h r v A ) (cwV 0 hts gX12_still_X12_isThere rfl rfl rfl (by decide +kernel) ⟨Nat.le_of_ble_eq_true rfl, Nat.le_of_ble_eq_true rfl⟩) (pre_V hKN hP hD [0, 1, 2, 3, 4, 5, 6, 7, 8, 9, 10, 11, 12, 13, 14] rfl (by decide) 0 11 rfl rfl) rfl rfl hl.1 rfl (lv_room (Nat.le_of_ble_eq_true rfl)) dX12_still_1 ⟨Nat.le_of_ble_eq_true rfl, Nat.le_of_ble_eq_true rfl⟩) hS hA hP hD [0, 1, 2, 3, 4, 5, 6, 7, 8, 9, 10, 11, 12, 13, 14] [] [0, 1, 2, 3, 4, 5, 6, 7, 8, 9, 10, 11, 12, 13, 14] rfl rfl (by decide) (by decide) (fun _ => rfl) (by decide) (fun r2 u1 H locs hw3 hP hD hS => ?_)
  replace hw3 := hw3.symm; subst hw3
  refine ifneB (tgt := 10) hx hb dX12_still_4 (by decide) (fun c4 => ?_) (fun c4 => ?_)
  · refine lv_iload_n hx hb dX12_still_10 rfl (lv_at hl 1 rfl) ?_
    refine lv_iconst (v := nI 0) hx hb dX12_still_11 (by decide) ?_
    refine lv_iconst (v := nI 1) hx hb dX12_still_12 (by decide) ?_
    refine call_i (wr := [(h, .inr (11, mO r v)), ((r 0), wInt (cy 0) 8 (A 0)), ((r 1), wInt (cy 0) 8 (A 1)), ((r 2), wInt (cy 0) 320 (A 2)), ((r 5), wInt (cy 0) 60 (A 5)), ((r 12), wInt (cy 0) 37 (A 12)), ((r 13), wInt (cy 0) 37 (A 13)), ((r 14), wInt (cy 0) 37 (A 14)), ((r 15), wInt (cy 0) 37 (A 15)), ((r 16), wInt (cy 0) 74 (A 16)), ((r 17), wInt (cy 1) 2 (A 17)), ((r 18), wInt (cy 0) 888 (A 18)), ((r 20), wInt (cy 0) 16 (A 20)), ((r 22), wInt (cy 0) 16 (A 22)), ((r 23), wInt (cy 0) 24 (A 23))]) (ws' := (fun _ : Unit => mW cy h r v A)) (va_runS (As := [.int w0, .int (nI 0), .int (nI 1)]) (rest := []) CF (k_X12_in l D cy _ w0 (nI 0) (nI 1) ) (va_cwS 3 hts gX12_still_X12_in rfl rfl rfl (by decide +kernel) ⟨Nat.le_of_ble_eq_true rfl, Nat.le_of_ble_eq_true rfl⟩) (pre_S hKN hP hD [] rfl (by decide)) rfl rfl hl.1 rfl (lv_room (Nat.le_of_ble_eq_true rfl)) dX12_still_13 ⟨Nat.le_of_ble_eq_true rfl, Nat.le_of_ble_eq_true rfl⟩) hS hA hP hD [] [0, 1, 2, 3, 4, 5, 6, 7, 8, 9, 10, 11, 12, 13, 14] [0, 1, 2, 3, 4, 5, 6, 7, 8, 9, 10, 11, 12, 13, 14] rfl rfl (by decide) (by decide) (fun _ => rfl) (by decide) (fun r5 u4 H locs hw6 hP hD hS => ?_)
    replace hw6 := hw6.symm; subst hw6
    refine ifneB (tgt := 22) hx hb dX12_still_16 (by decide) (fun c16 => ?_) (fun c16 => ?_)
    · obtain ⟨ww, h_ww, rfl⟩ := rng (m := 1) (by decide) c16
      have e_ww : (nI ww).toNatClampNeg = ww := nI_clamp (by omega)
      refine lv_aload_n hx hb dX12_still_22 rfl (lv_at hl 0 rfl) ?_
      refine call_v (wr := []) (ws' := (fun _ : Unit => mW cy h r v (va_up A 14 (A 12)))) (va_runV (As := []) (rest := []) CF (k_X12_begin l D cy _ h r v A ) (cwV 0 hts gX12_still_X12_begin rfl rfl rfl (by decide +kernel) ⟨Nat.le_of_ble_eq_true rfl, Nat.le_of_ble_eq_true rfl⟩) (pre_V hKN hP hD [0, 1, 2, 3, 4, 5, 6, 7, 8, 9, 10, 11, 12, 13, 14] rfl (by decide) 0 11 rfl rfl) rfl rfl hl.1 rfl (lv_room (Nat.le_of_ble_eq_true rfl)) dX12_still_23 ⟨Nat.le_of_ble_eq_true rfl, Nat.le_of_ble_eq_true rfl⟩) hS hA hP hD [0, 1, 2, 3, 4, 5, 6, 7, 8, 9, 10, 11, 12, 13, 14] [] [0, 1, 2, 3, 4, 5, 6, 7, 8, 9, 10, 11, 12, 13, 14] rfl rfl (by decide) (by decide) (fun _ => rfl) (by decide) (fun u7 H locs hw9 hP hD hS => ?_)
      refine lv_iconst (v := nI 0) hx hb dX12_still_26 (by decide) ?_
      refine lv_istore_n (lv' := [(2, .int (nI 0)), (0, .ref h), (1, .int (nI ww))]) hx hb dX12_still_27 rfl hl (by decide) rfl (fun ls hl => ?_)
      have lp28 : ∀ f_ : Nat, ∀ (j : Nat) (f2 : Nat → Int32) (fb : Nat → Int32), (201 - j) < f_ → (j ≤ 201) → (Cat f2 n) → (f2 = nightsS (A 12) n j) → (stE (A 12) n ww j) → ∀ (H : Heap) (locs : List Loc), va_P D vwCl (mW cy h r v (va_up (va_up A 14 f2) 15 fb)) H → va_D A_ (mW cy h r v (va_up (va_up A 14 f2) 15 fb)) → va_S A_ s_.heap H locs → ∀ ls : Array Slot, lv_has ls 3 [(0, .ref h), (1, .int (nI ww)), (2, .int (nI j))] → W p_ l e_ (rmD 6) s_ m_ args_ below_ meth_ c_ H locs 0 0 Q_ (F0 m_ 28 ls []) := by
        intro f_
        induction f_ with
        | zero => intro j f2 fb hm_; exact absurd hm_ (by omega)
        | succ f_ ih28 =>
          intro j f2 fb hm_ hj hC2 e2 eS H locs hP hD hS ls hl
          refine lv_iload_n hx hb dX12_still_28 rfl (lv_at hl 2 rfl) ?_
          refine lv_sipush (v := nI 200) hx hb dX12_still_29 (by decide) ?_
          refine gtN (tgt := 103) hx hb (by omega) (by decide) dX12_still_32 (by decide) (fun c32 => ?_) (fun c32 => ?_)
          · refine lv_ldc hx hb hown hc137 dX12_still_103 ?_
            exact ret _ (va_up (va_up A 14 f2) 15 fb) _ _ _ _ dX12_still_105 ⟨still_rN eS c4 (by omega) (by omega), (fun j h1 h2 h3 h4 => by simp [va_up, h1, h2, h3, h4])⟩ hP hD hS
          · refine lv_aload_n hx hb dX12_still_35 rfl (lv_at hl 0 rfl) ?_
            refine va_get (ci := 11) (v := .ref (r 14)) (C := RX12) (T := TX12) (N := 24) hx hb hts hinX12 hown hK hP 0 rfl rfl 14 (by decide) hf28 (fun _ h9 => h9) rfl dX12_still_36 ?_
            refine lv_iconst (v := nI 0) hx hb dX12_still_39 (by decide) ?_
            refine lv_aload_n hx hb dX12_still_40 rfl (lv_at hl 0 rfl) ?_
            refine va_get (ci := 11) (v := .ref (r 15)) (C := RX12) (T := TX12) (N := 24) hx hb hts hinX12 hown hK hP 0 rfl rfl 15 (by decide) hf31 (fun _ h9 => h9) rfl dX12_still_41 ?_
            refine lv_iconst (v := nI 0) hx hb dX12_still_44 (by decide) ?_
            refine call_v (wr := [(h, .inr (11, mO r v)), ((r 0), wInt (cy 0) 8 (A 0)), ((r 1), wInt (cy 0) 8 (A 1)), ((r 2), wInt (cy 0) 320 (A 2)), ((r 5), wInt (cy 0) 60 (A 5)), ((r 12), wInt (cy 0) 37 (A 12)), ((r 13), wInt (cy 0) 37 (A 13)), ((r 16), wInt (cy 0) 74 (A 16)), ((r 17), wInt (cy 1) 2 (A 17)), ((r 18), wInt (cy 0) 888 (A 18)), ((r 20), wInt (cy 0) 16 (A 20)), ((r 22), wInt (cy 0) 16 (A 22)), ((r 23), wInt (cy 0) 24 (A 23))]) (ws' := (fun _ : Unit => mW cy h r v (va_up (va_up A 14 f2) 15 f2))) (va_runS (As := [.ref (r 14), .int (nI 0), .ref (r 15), .int (nI 0)]) (rest := []) CF (k_X12_lay00 l D cy _ (r 14) (r 15) f2 fb ) (va_cwS 4 hts gX12_still_X12_lay rfl rfl rfl (by decide +kernel) ⟨Nat.le_of_ble_eq_true rfl, Nat.le_of_ble_eq_true rfl⟩) (pre_S hKN hP hD [7, 8] rfl (by decide)) rfl rfl hl.1 rfl (lv_room (Nat.le_of_ble_eq_true rfl)) dX12_still_45 ⟨Nat.le_of_ble_eq_true rfl, Nat.le_of_ble_eq_true rfl⟩) hS hA hP hD [7, 8] [0, 1, 2, 3, 4, 5, 6, 9, 10, 11, 12, 13, 14] [0, 1, 2, 3, 4, 5, 6, 13, 14, 7, 8, 9, 10, 11, 12] rfl rfl (by decide) (by decide) (fun _ => rfl) (by decide) (fun u10 H locs hw12 hP hD hS => ?_)
            refine lv_aload_n hx hb dX12_still_48 rfl (lv_at hl 0 rfl) ?_
            refine lv_iconst (v := nI 1) hx hb dX12_still_49 (by decide) ?_
            refine call_v (wr := []) (ws' := (fun u13 : (Nat → Int32) => mW cy h r v (va_up (va_up A 15 f2) 14 u13))) (va_runV (As := [.int (nI 1)]) (rest := []) CF (k_X12_goOn l D cy _ h r v (va_up (va_up A 14 f2) 15 f2) 1 n (by first | assumption | omega | decide) hC2) (cwV 1 hts gX12_still_X12_goOn rfl rfl rfl (by decide +kernel) ⟨Nat.le_of_ble_eq_true rfl, Nat.le_of_ble_eq_true rfl⟩) (pre_V hKN hP hD [0, 1, 2, 3, 4, 5, 6, 7, 8, 9, 10, 11, 12, 13, 14] rfl (by decide) 0 11 rfl rfl) rfl rfl hl.1 rfl (lv_room (Nat.le_of_ble_eq_true rfl)) dX12_still_50 ⟨Nat.le_of_ble_eq_true rfl, Nat.le_of_ble_eq_true rfl⟩) hS hA hP hD [0, 1, 2, 3, 4, 5, 6, 7, 8, 9, 10, 11, 12, 13, 14] [] [0, 1, 2, 3, 4, 5, 6, 7, 8, 9, 10, 11, 12, 13, 14] rfl rfl (by decide) (by decide) (fun _ => rfl) (by decide) (fun u13 H locs hw15 hP hD hS => ?_)
            replace hw15 := hw15.symm; subst hw15
            have hP : va_P D vwCl (mW cy h r v (va_up (va_up A 15 f2) 14 (nightsS (f2) n 1))) H := hP
            have hD : va_D A_ (mW cy h r v (va_up (va_up A 15 f2) 14 (nightsS (f2) n 1))) := hD
            refine lv_iload_n hx hb dX12_still_53 rfl (lv_at hl 1 rfl) ?_
            refine ifneN (tgt := 70) hx hb (by omega) dX12_still_54 (by decide) (fun c54 => ?_) (fun c54 => ?_)
            · refine lv_iload_n hx hb dX12_still_70 rfl (lv_at hl 1 rfl) ?_
              refine lv_iconst (v := nI 1) hx hb dX12_still_71 (by decide) ?_
              refine neN (tgt := 97) hx hb (by omega) (by decide) dX12_still_72 (by decide) (fun c72 => ?_) (fun c72 => ?_)
              · refine lv_iinc (v := nI (j + 1)) (lv' := [(2, .int (nI (j + 1))), (0, .ref h), (1, .int (nI ww))]) hx hb dX12_still_97 hl (k := 2) rfl (nI_1 _) (by decide) rfl (fun ls hl => ?_)
                refine lv_goto (tgt := 28) hx hb dX12_still_100 (by decide) ?_
                exact ih28 (j + 1) (nightsS (f2) n 1) f2 (by omega) (by omega) (hC2.night _) (by rw [e2]; rfl) (still_back eS (by omega) (fun z => by first | (exfalso; omega) | (subst e2; exact c65)) (fun z w => by first | (exfalso; omega) | (subst e2; exact c90))) _ _ hP hD hS ls (lv_sub hl [1, 2, 0] rfl)
              · refine lv_iload_n hx hb dX12_still_75 rfl (lv_at hl 2 rfl) ?_
                refine lv_sipush (v := nI 200) hx hb dX12_still_76 (by decide) ?_
                refine geN (tgt := 97) hx hb (by omega) (by decide) dX12_still_79 (by decide) (fun c79 => ?_) (fun c79 => ?_)
                · refine lv_iinc (v := nI (j + 1)) (lv' := [(2, .int (nI (j + 1))), (0, .ref h), (1, .int (nI ww))]) hx hb dX12_still_97 hl (k := 2) rfl (nI_1 _) (by decide) rfl (fun ls hl => ?_)
                  refine lv_goto (tgt := 28) hx hb dX12_still_100 (by decide) ?_
                  exact ih28 (j + 1) (nightsS (f2) n 1) f2 (by omega) (by omega) (hC2.night _) (by rw [e2]; rfl) (still_back eS (by omega) (fun z => by first | (exfalso; omega) | (subst e2; exact c65)) (fun z w => by first | (exfalso; omega) | (subst e2; exact c90))) _ _ hP hD hS ls (lv_sub hl [1, 2, 0] rfl)
                · refine lv_aload_n hx hb dX12_still_82 rfl (lv_at hl 0 rfl) ?_
                  refine lv_aload_n hx hb dX12_still_83 rfl (lv_at hl 0 rfl) ?_
                  refine va_get (ci := 11) (v := .ref (r 12)) (C := RX12) (T := TX12) (N := 24) hx hb hts hinX12 hown hK hP 0 rfl rfl 12 (by decide) hf22 (fun _ h9 => h9) rfl dX12_still_84 ?_
                  refine call_i (wr := []) (ws' := (fun _ : Unit => mW cy h r v (va_up (va_up A 15 f2) 14 (nightsS (f2) n 1)))) (va_runV (As := [.ref (r 12)]) (rest := []) CF (k_X12_isAsN l D cy _ h r v (va_up (va_up A 15 f2) 14 (nightsS (f2) n 1)) n hC) (cwV 1 hts gX12_still_X12_isAs rfl rfl rfl (by decide +kernel) ⟨Nat.le_of_ble_eq_true rfl, Nat.le_of_ble_eq_true rfl⟩) (pre_V hKN hP hD [0, 1, 2, 3, 4, 5, 6, 7, 8, 9, 10, 11, 12, 13, 14] rfl (by decide) 0 11 rfl rfl) rfl rfl hl.1 rfl (lv_room (Nat.le_of_ble_eq_true rfl)) dX12_still_87 ⟨Nat.le_of_ble_eq_true rfl, Nat.le_of_ble_eq_true rfl⟩) hS hA hP hD [0, 1, 2, 3, 4, 5, 6, 7, 8, 9, 10, 11, 12, 13, 14] [] [0, 1, 2, 3, 4, 5, 6, 7, 8, 9, 10, 11, 12, 13, 14] rfl rfl (by decide) (by decide) (fun _ => rfl) (by decide) (fun r17 u16 H locs hw18 hP hD hS => ?_)
                  replace hw18 := hw18.symm; subst hw18
                  refine ifeqB (tgt := 97) hx hb dX12_still_90 (by decide) (fun c90 => ?_) (fun c90 => ?_)
                  · refine lv_iinc (v := nI (j + 1)) (lv' := [(2, .int (nI (j + 1))), (0, .ref h), (1, .int (nI ww))]) hx hb dX12_still_97 hl (k := 2) rfl (nI_1 _) (by decide) rfl (fun ls hl => ?_)
                    refine lv_goto (tgt := 28) hx hb dX12_still_100 (by decide) ?_
                    exact ih28 (j + 1) (nightsS (f2) n 1) f2 (by omega) (by omega) (hC2.night _) (by rw [e2]; rfl) (still_back eS (by omega) (fun z => by first | (exfalso; omega) | (subst e2; exact c65)) (fun z w => by first | (exfalso; omega) | (subst e2; exact c90))) _ _ hP hD hS ls (lv_sub hl [1, 2, 0] rfl)
                  · refine lv_iload_n hx hb dX12_still_93 rfl (lv_at hl 2 rfl) ?_
                    refine lv_iconst (v := nI 1) hx hb dX12_still_94 (by decide) ?_
                    refine adN (k := j + 1) hx hb rfl dX12_still_95 ?_
                    exact ret _ (va_up (va_up A 15 f2) 14 (nightsS (f2) n 1)) _ _ _ _ dX12_still_96 ⟨still_r1 eS c4 c72 (by omega) (by subst e2; exact c90), (fun j h1 h2 h3 h4 => by simp [va_up, h1, h2, h3, h4])⟩ hP hD hS
            · refine lv_aload_n hx hb dX12_still_57 rfl (lv_at hl 0 rfl) ?_
              refine lv_aload_n hx hb dX12_still_58 rfl (lv_at hl 0 rfl) ?_
              refine va_get (ci := 11) (v := .ref (r 15)) (C := RX12) (T := TX12) (N := 24) hx hb hts hinX12 hown hK hP 0 rfl rfl 15 (by decide) hf31 (fun _ h9 => h9) rfl dX12_still_59 ?_
              refine call_i (wr := []) (ws' := (fun _ : Unit => mW cy h r v (va_up (va_up A 15 f2) 14 (nightsS (f2) n 1)))) (va_runV (As := [.ref (r 15)]) (rest := []) CF (k_X12_isAsB l D cy _ h r v (va_up (va_up A 15 f2) 14 (nightsS (f2) n 1)) n hC) (cwV 1 hts gX12_still_X12_isAs rfl rfl rfl (by decide +kernel) ⟨Nat.le_of_ble_eq_true rfl, Nat.le_of_ble_eq_true rfl⟩) (pre_V hKN hP hD [0, 1, 2, 3, 4, 5, 6, 7, 8, 9, 10, 11, 12, 13, 14] rfl (by decide) 0 11 rfl rfl) rfl rfl hl.1 rfl (lv_room (Nat.le_of_ble_eq_true rfl)) dX12_still_62 ⟨Nat.le_of_ble_eq_true rfl, Nat.le_of_ble_eq_true rfl⟩) hS hA hP hD [0, 1, 2, 3, 4, 5, 6, 7, 8, 9, 10, 11, 12, 13, 14] [] [0, 1, 2, 3, 4, 5, 6, 7, 8, 9, 10, 11, 12, 13, 14] rfl rfl (by decide) (by decide) (fun _ => rfl) (by decide) (fun r20 u19 H locs hw21 hP hD hS => ?_)
              replace hw21 := hw21.symm; subst hw21
              refine ifeqB (tgt := 70) hx hb dX12_still_65 (by decide) (fun c65 => ?_) (fun c65 => ?_)
              · refine lv_iload_n hx hb dX12_still_70 rfl (lv_at hl 1 rfl) ?_
                refine lv_iconst (v := nI 1) hx hb dX12_still_71 (by decide) ?_
                refine neN (tgt := 97) hx hb (by omega) (by decide) dX12_still_72 (by decide) (fun c72 => ?_) (fun c72 => ?_)
                · refine lv_iinc (v := nI (j + 1)) (lv' := [(2, .int (nI (j + 1))), (0, .ref h), (1, .int (nI ww))]) hx hb dX12_still_97 hl (k := 2) rfl (nI_1 _) (by decide) rfl (fun ls hl => ?_)
                  refine lv_goto (tgt := 28) hx hb dX12_still_100 (by decide) ?_
                  exact ih28 (j + 1) (nightsS (f2) n 1) f2 (by omega) (by omega) (hC2.night _) (by rw [e2]; rfl) (still_back eS (by omega) (fun z => by first | (exfalso; omega) | (subst e2; exact c65)) (fun z w => by first | (exfalso; omega) | (subst e2; exact c90))) _ _ hP hD hS ls (lv_sub hl [1, 2, 0] rfl)
                · refine lv_iload_n hx hb dX12_still_75 rfl (lv_at hl 2 rfl) ?_
                  refine lv_sipush (v := nI 200) hx hb dX12_still_76 (by decide) ?_
                  refine geN (tgt := 97) hx hb (by omega) (by decide) dX12_still_79 (by decide) (fun c79 => ?_) (fun c79 => ?_)
                  · refine lv_iinc (v := nI (j + 1)) (lv' := [(2, .int (nI (j + 1))), (0, .ref h), (1, .int (nI ww))]) hx hb dX12_still_97 hl (k := 2) rfl (nI_1 _) (by decide) rfl (fun ls hl => ?_)
                    refine lv_goto (tgt := 28) hx hb dX12_still_100 (by decide) ?_
                    exact ih28 (j + 1) (nightsS (f2) n 1) f2 (by omega) (by omega) (hC2.night _) (by rw [e2]; rfl) (still_back eS (by omega) (fun z => by first | (exfalso; omega) | (subst e2; exact c65)) (fun z w => by first | (exfalso; omega) | (subst e2; exact c90))) _ _ hP hD hS ls (lv_sub hl [1, 2, 0] rfl)
                  · refine lv_aload_n hx hb dX12_still_82 rfl (lv_at hl 0 rfl) ?_
                    refine lv_aload_n hx hb dX12_still_83 rfl (lv_at hl 0 rfl) ?_
                    refine va_get (ci := 11) (v := .ref (r 12)) (C := RX12) (T := TX12) (N := 24) hx hb hts hinX12 hown hK hP 0 rfl rfl 12 (by decide) hf22 (fun _ h9 => h9) rfl dX12_still_84 ?_
                    refine call_i (wr := []) (ws' := (fun _ : Unit => mW cy h r v (va_up (va_up A 15 f2) 14 (nightsS (f2) n 1)))) (va_runV (As := [.ref (r 12)]) (rest := []) CF (k_X12_isAsN l D cy _ h r v (va_up (va_up A 15 f2) 14 (nightsS (f2) n 1)) n hC) (cwV 1 hts gX12_still_X12_isAs rfl rfl rfl (by decide +kernel) ⟨Nat.le_of_ble_eq_true rfl, Nat.le_of_ble_eq_true rfl⟩) (pre_V hKN hP hD [0, 1, 2, 3, 4, 5, 6, 7, 8, 9, 10, 11, 12, 13, 14] rfl (by decide) 0 11 rfl rfl) rfl rfl hl.1 rfl (lv_room (Nat.le_of_ble_eq_true rfl)) dX12_still_87 ⟨Nat.le_of_ble_eq_true rfl, Nat.le_of_ble_eq_true rfl⟩) hS hA hP hD [0, 1, 2, 3, 4, 5, 6, 7, 8, 9, 10, 11, 12, 13, 14] [] [0, 1, 2, 3, 4, 5, 6, 7, 8, 9, 10, 11, 12, 13, 14] rfl rfl (by decide) (by decide) (fun _ => rfl) (by decide) (fun r23 u22 H locs hw24 hP hD hS => ?_)
                    replace hw24 := hw24.symm; subst hw24
                    refine ifeqB (tgt := 97) hx hb dX12_still_90 (by decide) (fun c90 => ?_) (fun c90 => ?_)
                    · refine lv_iinc (v := nI (j + 1)) (lv' := [(2, .int (nI (j + 1))), (0, .ref h), (1, .int (nI ww))]) hx hb dX12_still_97 hl (k := 2) rfl (nI_1 _) (by decide) rfl (fun ls hl => ?_)
                      refine lv_goto (tgt := 28) hx hb dX12_still_100 (by decide) ?_
                      exact ih28 (j + 1) (nightsS (f2) n 1) f2 (by omega) (by omega) (hC2.night _) (by rw [e2]; rfl) (still_back eS (by omega) (fun z => by first | (exfalso; omega) | (subst e2; exact c65)) (fun z w => by first | (exfalso; omega) | (subst e2; exact c90))) _ _ hP hD hS ls (lv_sub hl [1, 2, 0] rfl)
                    · refine lv_iload_n hx hb dX12_still_93 rfl (lv_at hl 2 rfl) ?_
                      refine lv_iconst (v := nI 1) hx hb dX12_still_94 (by decide) ?_
                      refine adN (k := j + 1) hx hb rfl dX12_still_95 ?_
                      exact ret _ (va_up (va_up A 15 f2) 14 (nightsS (f2) n 1)) _ _ _ _ dX12_still_96 ⟨still_r1 eS c4 c72 (by omega) (by subst e2; exact c90), (fun j h1 h2 h3 h4 => by simp [va_up, h1, h2, h3, h4])⟩ hP hD hS
              · refine lv_iload_n hx hb dX12_still_68 rfl (lv_at hl 2 rfl) ?_
                exact ret _ (va_up (va_up A 15 f2) 14 (nightsS (f2) n 1)) _ _ _ _ dX12_still_69 ⟨still_r0 eS c4 c54 (by omega) (by subst e2; exact c65), (fun j h1 h2 h3 h4 => by simp [va_up, h1, h2, h3, h4])⟩ hP hD hS
      exact lp28 (201 - 0 + 1) 0 (A 12) (A 15) (by omega) (by omega) hC rfl ⟨fun _ => rfl, fun _ => rfl⟩ _ _ hP hD hS ls (lv_sub hl [1, 2, 0] rfl)
    · refine lv_ldc hx hb hown hc66 dX12_still_19 ?_
      exact ret _ A _ _ _ _ dX12_still_21 ⟨(by simp [-not_and, -Int32.not_le, -Int32.not_lt, noOne, noDr, mStil, c4, c16]), (fun j h1 h2 h3 h4 => by simp [va_up, h1, h2, h3, h4])⟩ hP hD hS
  · refine lv_ldc hx hb hown hc172 dX12_still_7 ?_
    exact ret _ A _ _ _ _ dX12_still_9 ⟨(by simp [-not_and, -Int32.not_le, -Int32.not_lt, noOne, noDr, mStil, c4]), (fun j h1 h2 h3 h4 => by simp [va_up, h1, h2, h3, h4])⟩ hP hD hS
