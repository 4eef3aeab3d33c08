set_option maxHeartbeats 4000000 in
set_option maxRecDepth 100000 in
theorem k_X11_isRow (l : Launch) (D : va_G) (cy : Nat → ClassId) (sz : Nat) (y : Int32)  : Met l yX11_isRow wsX11_isRow (rmD 1) (pPre D (TY cy) ([]) sz [.int y]) (pI D (TY cy) ([]) sz (fun _ : Unit => []) (fun (r_ : Int32) (_ : Unit) => r_ = bI (nI 0 ≤ y ∧ y ≤ nI 7))) 0 0 (va_A ([]) sz) := by
  refine ent_z (cc := cX11_isRow) (maxL := 1) (by decide +kernel) rfl (Nat.le_of_ble_eq_true rfl) ?_
  intro p_ e_ s_ m_ args_ below_ meth_ c_ A_ Q_ ls B0 ret
  obtain ⟨CF, hA, hKN, hP, hD, hl⟩ := B0
  have hK := hKN.1
  obtain ⟨hx, hb, hml, hown, hts⟩ := id CF
  have hS : va_S A_ s_.heap s_.heap [] := va_S.rf
  have hl : lv_has ls 1 [(0, .int y)] := hl
  refine lv_iload_n hx hb dX11_isRow_0 rfl (lv_at hl 0 rfl) ?_
  refine lv_iconst (v := nI 0) hx hb dX11_isRow_1 (by decide) ?_
  refine lv_bipush (v := nI 7) hx hb dX11_isRow_2 (by decide) ?_
  refine call_i (wr := []) (ws' := (fun _ : Unit => [])) (va_runS (As := [.int y, .int (nI 0), .int (nI 7)]) (rest := []) CF (k_X11_within l D cy _ y (nI 0) (nI 7) ) (va_cwS 3 hts gX11_isRow_X11_within rfl rfl rfl (by decide +kernel) ⟨Nat.le_of_ble_eq_true rfl, Nat.le_of_ble_eq_true rfl⟩) (pre_S hKN hP hD [] rfl (by decide)) rfl rfl hl.1 rfl (lv_room (Nat.le_of_ble_eq_true rfl)) dX11_isRow_4 ⟨Nat.le_of_ble_eq_true rfl, Nat.le_of_ble_eq_true rfl⟩) hS hA hP hD [] [] [] rfl rfl (by decide) (by decide) (fun _ => rfl) (by decide) (fun r2 u1 H locs hw3 hP hD hS => ?_)
  replace hw3 := hw3.symm; subst hw3
  exact ret _ () _ _ _ _ dX11_isRow_7 bI_nar rfl hP hD hS
set_option maxHeartbeats 4000000 in
set_option maxRecDepth 100000 in
theorem k_X11_find (l : Launch) (D : va_G) (cy : Nat → ClassId) (sz : Nat) (x : Nat) (rw : Nat) (kk : Nat) (rd : Nat) (a0 : Nat) (pp : Nat) (ii : Nat) (fo : Nat) (ak : Nat) (ac : Nat) (fi : Int32) (lf : Int32) (k : Nat)  : Met l yX11_find wsX11_find (rmD 0) (pPre D (TY cy) ([(x, .inr (10, [.ref rw, .ref kk, .ref rd, .ref a0, .ref pp, .ref ii, .ref fo, .ref ak, .int (nI ac), .int fi, .int lf]))]) sz [.ref x, .int (nI k)]) (pI D (TY cy) ([(x, .inr (10, [.ref rw, .ref kk, .ref rd, .ref a0, .ref pp, .ref ii, .ref fo, .ref ak, .int (nI ac), .int fi, .int lf]))]) sz (fun _ : Unit => [(x, .inr (10, [.ref rw, .ref kk, .ref rd, .ref a0, .ref pp, .ref ii, .ref fo, .ref ak, .int (nI ac), .int (nI k), .int lf]))]) (fun (r_ : Int32) (_ : Unit) => r_ = ((-1000010) - nI k))) 0 0 (va_A ([(x, .inr (10, [.ref rw, .ref kk, .ref rd, .ref a0, .ref pp, .ref ii, .ref fo, .ref ak, .int (nI ac), .int fi, .int lf]))]) sz) := by
  refine ent_i (cc := cX11_find) (maxL := 2) (by decide +kernel) rfl (Nat.le_of_ble_eq_true rfl) ?_
  intro p_ e_ s_ m_ args_ below_ meth_ c_ A_ Q_ ls B0 ret
  obtain ⟨CF, hA, hKN, hP, hD, hl⟩ := B0
  have hK := hKN.1
  obtain ⟨hx, hb, hml, hown, hts⟩ := id CF
  have hS : va_S A_ s_.heap s_.heap [] := va_S.rf
  have hl : lv_has ls 2 [(0, .ref x), (1, .int (nI k))] := hl
  have hf284 := hts (.fieldLink RX11 284 "DrawerCards" "finding" "I") (by decide +kernel)
  have hinX11 := show ∀ w ∈ u_ws RX11 TX11 11, w ∈ wsX11_find from by decide +kernel
  have hc287 := hts (.constant RX11 287 (-1000010)) (by decide +kernel)
  refine lv_aload_n hx hb dX11_find_0 rfl (lv_at hl 0 rfl) ?_
  refine lv_iload_n hx hb dX11_find_1 rfl (lv_at hl 1 rfl) ?_
  refine va_put (ci := 10) (v := .int (nI k)) (ty := .int) (C := RX11) (T := TX11) (N := 11) hx hb hts hinX11 tyX11 tyX11_ok nmX11 hown hK hP hD hS 0 rfl rfl 9 (by decide) hf284 (fun _ h9 => h9) rfl (by decide +kernel) rfl rfl (Nat.le_of_ble_eq_true rfl) dX11_find_2 (fun H locs hP hD hS => ?_)
  have hP : va_P D vwCl ([(x, .inr (10, [.ref rw, .ref kk, .ref rd, .ref a0, .ref pp, .ref ii, .ref fo, .ref ak, .int (nI ac), .int (nI k), .int lf]))]) H := hP
  have hD : va_D A_ ([(x, .inr (10, [.ref rw, .ref kk, .ref rd, .ref a0, .ref pp, .ref ii, .ref fo, .ref ak, .int (nI ac), .int (nI k), .int lf]))]) := hD
  refine lv_ldcw hx hb hown hc287 dX11_find_5 ?_
  refine lv_iload_n hx hb dX11_find_8 rfl (lv_at hl 1 rfl) ?_
  refine lv_isub hx hb dX11_find_9 ?_
  exact ret _ () _ _ _ _ dX11_find_10 rfl hP hD hS
set_option maxHeartbeats 4000000 in
set_option maxRecDepth 100000 in
theorem k_X11_findNothing (l : Launch) (D : va_G) (cy : Nat → ClassId) (sz : Nat) (x : Nat) (rw : Nat) (kk : Nat) (rd : Nat) (a0 : Nat) (pp : Nat) (ii : Nat) (fo : Nat) (ak : Nat) (ac : Nat) (fi : Int32) (lf : Int32) (y : Int32)  : Met l yX11_findNothing wsX11_findNothing (rmD 0) (pPre D (TY cy) ([(x, .inr (10, [.ref rw, .ref kk, .ref rd, .ref a0, .ref pp, .ref ii, .ref fo, .ref ak, .int (nI ac), .int fi, .int lf]))]) sz [.ref x, .int y]) (pI D (TY cy) ([(x, .inr (10, [.ref rw, .ref kk, .ref rd, .ref a0, .ref pp, .ref ii, .ref fo, .ref ak, .int (nI ac), .int fi, .int lf]))]) sz (fun _ : Unit => [(x, .inr (10, [.ref rw, .ref kk, .ref rd, .ref a0, .ref pp, .ref ii, .ref fo, .ref ak, .int (nI ac), .int (nI 0), .int lf]))]) (fun (r_ : Int32) (_ : Unit) => r_ = y)) 0 0 (va_A ([(x, .inr (10, [.ref rw, .ref kk, .ref rd, .ref a0, .ref pp, .ref ii, .ref fo, .ref ak, .int (nI ac), .int fi, .int lf]))]) sz) := by
  refine ent_i (cc := cX11_findNothing) (maxL := 2) (by decide +kernel) rfl (Nat.le_of_ble_eq_true rfl) ?_
  intro p_ e_ s_ m_ args_ below_ meth_ c_ A_ Q_ ls B0 ret
  obtain ⟨CF, hA, hKN, hP, hD, hl⟩ := B0
  have hK := hKN.1
  obtain ⟨hx, hb, hml, hown, hts⟩ := id CF
  have hS : va_S A_ s_.heap s_.heap [] := va_S.rf
  have hl : lv_has ls 2 [(0, .ref x), (1, .int y)] := hl
  have hf284 := hts (.fieldLink RX11 284 "DrawerCards" "finding" "I") (by decide +kernel)
  have hinX11 := show ∀ w ∈ u_ws RX11 TX11 11, w ∈ wsX11_findNothing from by decide +kernel
  refine lv_aload_n hx hb dX11_findNothing_0 rfl (lv_at hl 0 rfl) ?_
  refine lv_iconst (v := nI 0) hx hb dX11_findNothing_1 (by decide) ?_
  refine va_put (ci := 10) (v := .int (nI 0)) (ty := .int) (C := RX11) (T := TX11) (N := 11) hx hb hts hinX11 tyX11 tyX11_ok nmX11 hown hK hP hD hS 0 rfl rfl 9 (by decide) hf284 (fun _ h9 => h9) rfl (by decide +kernel) rfl rfl (Nat.le_of_ble_eq_true rfl) dX11_findNothing_2 (fun H locs hP hD hS => ?_)
  have hP : va_P D vwCl ([(x, .inr (10, [.ref rw, .ref kk, .ref rd, .ref a0, .ref pp, .ref ii, .ref fo, .ref ak, .int (nI ac), .int (nI 0), .int lf]))]) H := hP
  have hD : va_D A_ ([(x, .inr (10, [.ref rw, .ref kk, .ref rd, .ref a0, .ref pp, .ref ii, .ref fo, .ref ak, .int (nI ac), .int (nI 0), .int lf]))]) := hD
  refine lv_iload_n hx hb dX11_findNothing_5 rfl (lv_at hl 1 rfl) ?_
  exact ret _ () _ _ _ _ dX11_findNothing_6 rfl hP hD hS
set_option maxHeartbeats 4000000 in
set_option maxRecDepth 100000 in
theorem k_X11_fault (l : Launch) (D : va_G) (cy : Nat → ClassId) (sz : Nat) (x : Nat) (rw : Nat) (kk : Nat) (rd : Nat) (a0 : Nat) (pp : Nat) (ii : Nat) (fo : Nat) (ak : Nat) (ac : Nat) (fi : Int32) (lf : Int32)  : Met l yX11_fault wsX11_fault (rmD 0) (pPre D (TY cy) ([(x, .inr (10, [.ref rw, .ref kk, .ref rd, .ref a0, .ref pp, .ref ii, .ref fo, .ref ak, .int (nI ac), .int fi, .int lf]))]) sz [.ref x]) (pI D (TY cy) ([(x, .inr (10, [.ref rw, .ref kk, .ref rd, .ref a0, .ref pp, .ref ii, .ref fo, .ref ak, .int (nI ac), .int fi, .int lf]))]) sz (fun _ : Unit => [(x, .inr (10, [.ref rw, .ref kk, .ref rd, .ref a0, .ref pp, .ref ii, .ref fo, .ref ak, .int (nI ac), .int fi, .int lf]))]) (fun (r_ : Int32) (_ : Unit) => r_ = lf)) 0 0 (va_A ([(x, .inr (10, [.ref rw, .ref kk, .ref rd, .ref a0, .ref pp, .ref ii, .ref fo, .ref ak, .int (nI ac), .int fi, .int lf]))]) sz) := by
  refine ent_i (cc := cX11_fault) (maxL := 1) (by decide +kernel) rfl (Nat.le_of_ble_eq_true rfl) ?_
  intro p_ e_ s_ m_ args_ below_ meth_ c_ A_ Q_ ls B0 ret
  obtain ⟨CF, hA, hKN, hP, hD, hl⟩ := B0
  have hK := hKN.1
  obtain ⟨hx, hb, hml, hown, hts⟩ := id CF
  have hS : va_S A_ s_.heap s_.heap [] := va_S.rf
  have hl : lv_has ls 1 [(0, .ref x)] := hl
  have hf137 := hts (.fieldLink RX11 137 "DrawerCards" "latestFault" "I") (by decide +kernel)
  have hinX11 := show ∀ w ∈ u_ws RX11 TX11 11, w ∈ wsX11_fault from by decide +kernel
  refine lv_aload_n hx hb dX11_fault_0 rfl (lv_at hl 0 rfl) ?_
  refine va_get (ci := 10) (v := .int lf) (C := RX11) (T := TX11) (N := 11) hx hb hts hinX11 hown hK hP 0 rfl rfl 10 (by decide) hf137 (fun _ h9 => h9) rfl dX11_fault_1 ?_
  exact ret _ () _ _ _ _ dX11_fault_4 rfl hP hD hS
set_option maxHeartbeats 4000000 in
set_option maxRecDepth 100000 in
theorem k_X11_status (l : Launch) (D : va_G) (cy : Nat → ClassId) (sz : Nat) (x : Nat) (rw : Nat) (kk : Nat) (rd : Nat) (a0 : Nat) (pp : Nat) (ii : Nat) (fo : Nat) (ak : Nat) (ac : Nat) (fi : Int32) (lf : Int32)  : Met l yX11_status wsX11_status (rmD 0) (pPre D (TY cy) ([(x, .inr (10, [.ref rw, .ref kk, .ref rd, .ref a0, .ref pp, .ref ii, .ref fo, .ref ak, .int (nI ac), .int fi, .int lf]))]) sz [.ref x]) (pI D (TY cy) ([(x, .inr (10, [.ref rw, .ref kk, .ref rd, .ref a0, .ref pp, .ref ii, .ref fo, .ref ak, .int (nI ac), .int fi, .int lf]))]) sz (fun _ : Unit => [(x, .inr (10, [.ref rw, .ref kk, .ref rd, .ref a0, .ref pp, .ref ii, .ref fo, .ref ak, .int (nI ac), .int fi, .int lf]))]) (fun (r_ : Int32) (_ : Unit) => r_ = fi)) 0 0 (va_A ([(x, .inr (10, [.ref rw, .ref kk, .ref rd, .ref a0, .ref pp, .ref ii, .ref fo, .ref ak, .int (nI ac), .int fi, .int lf]))]) sz) := by
  refine ent_i (cc := cX11_status) (maxL := 1) (by decide +kernel) rfl (Nat.le_of_ble_eq_true rfl) ?_
  intro p_ e_ s_ m_ args_ below_ meth_ c_ A_ Q_ ls B0 ret
  obtain ⟨CF, hA, hKN, hP, hD, hl⟩ := B0
  have hK := hKN.1
  obtain ⟨hx, hb, hml, hown, hts⟩ := id CF
  have hS : va_S A_ s_.heap s_.heap [] := va_S.rf
  have hl : lv_has ls 1 [(0, .ref x)] := hl
  have hf284 := hts (.fieldLink RX11 284 "DrawerCards" "finding" "I") (by decide +kernel)
  have hinX11 := show ∀ w ∈ u_ws RX11 TX11 11, w ∈ wsX11_status from by decide +kernel
  refine lv_aload_n hx hb dX11_status_0 rfl (lv_at hl 0 rfl) ?_
  refine va_get (ci := 10) (v := .int fi) (C := RX11) (T := TX11) (N := 11) hx hb hts hinX11 hown hK hP 0 rfl rfl 9 (by decide) hf284 (fun _ h9 => h9) rfl dX11_status_1 ?_
  exact ret _ () _ _ _ _ dX11_status_4 rfl hP hD hS
set_option maxHeartbeats 4000000 in
set_option maxRecDepth 100000 in
theorem k_X11_card (l : Launch) (D : va_G) (cy : Nat → ClassId) (sz : Nat) (x : Nat) (rw : Nat) (kk : Nat) (rd : Nat) (a0 : Nat) (pp : Nat) (ii : Nat) (fo : Nat) (ak : Nat) (ac : Nat) (fi : Int32) (lf : Int32) (b0 : Nat → Nat) (S0 : Nat → Option Nat) (t0 : Nat → Int32) (kd : Nat → Nat) (A : Nat → Nat → Int32) (n : Nat) (dr : Nat) (y : Int32) (w : Int32) (hR : catR kd S0 t0 (A 12) n dr) : Met l yX11_card wsX11_card (rmD 2) (pPre D (TY cy) ([(x, .inr (10, [.ref rw, .ref kk, .ref rd, .ref a0, .ref pp, .ref ii, .ref fo, .ref ak, .int (nI ac), .int fi, .int lf])), (a0, .inr (8, [.ref (b0 0), .ref (b0 1), .ref (b0 2), .ref (b0 3), .int (t0 1), .int (t0 2), .int (t0 3), .int (t0 0)])), ((b0 0), wRef (cy 2) 8 S0), ((b0 1), wInt (cy 0) 8 (fun j => t0 (13 + j))), ((b0 2), wInt (cy 0) 8 (fun j => t0 (21 + j))), ((b0 3), wInt (cy 0) 8 (fun j => t0 (29 + j)))]) sz [.ref x, .int y, .int w]) (pI D (TY cy) ([(x, .inr (10, [.ref rw, .ref kk, .ref rd, .ref a0, .ref pp, .ref ii, .ref fo, .ref ak, .int (nI ac), .int fi, .int lf])), (a0, .inr (8, [.ref (b0 0), .ref (b0 1), .ref (b0 2), .ref (b0 3), .int (t0 1), .int (t0 2), .int (t0 3), .int (t0 0)])), ((b0 0), wRef (cy 2) 8 S0), ((b0 1), wInt (cy 0) 8 (fun j => t0 (13 + j))), ((b0 2), wInt (cy 0) 8 (fun j => t0 (21 + j))), ((b0 3), wInt (cy 0) 8 (fun j => t0 (29 + j)))]) sz (fun _ : Unit => [(x, .inr (10, [.ref rw, .ref kk, .ref rd, .ref a0, .ref pp, .ref ii, .ref fo, .ref ak, .int (nI ac), .int fi, .int lf])), (a0, .inr (8, [.ref (b0 0), .ref (b0 1), .ref (b0 2), .ref (b0 3), .int (t0 1), .int (t0 2), .int (t0 3), .int (t0 0)])), ((b0 0), wRef (cy 2) 8 S0), ((b0 1), wInt (cy 0) 8 (fun j => t0 (13 + j))), ((b0 2), wInt (cy 0) 8 (fun j => t0 (21 + j))), ((b0 3), wInt (cy 0) 8 (fun j => t0 (29 + j)))]) (fun (r_ : Int32) (_ : Unit) => r_ = (mCard A n y w))) 0 0 (va_A ([(x, .inr (10, [.ref rw, .ref kk, .ref rd, .ref a0, .ref pp, .ref ii, .ref fo, .ref ak, .int (nI ac), .int fi, .int lf])), (a0, .inr (8, [.ref (b0 0), .ref (b0 1), .ref (b0 2), .ref (b0 3), .int (t0 1), .int (t0 2), .int (t0 3), .int (t0 0)])), ((b0 0), wRef (cy 2) 8 S0), ((b0 1), wInt (cy 0) 8 (fun j => t0 (13 + j))), ((b0 2), wInt (cy 0) 8 (fun j => t0 (21 + j))), ((b0 3), wInt (cy 0) 8 (fun j => t0 (29 + j)))]) sz) := by
  refine ent_i (cc := cX11_card) (maxL := 3) (by decide +kernel) rfl (Nat.le_of_ble_eq_true rfl) ?_
  intro p_ e_ s_ m_ args_ below_ meth_ c_ A_ Q_ ls B0 ret
  obtain ⟨CF, hA, hKN, hP, hD, hl⟩ := B0
  have hK := hKN.1
  obtain ⟨hx, hb, hml, hown, hts⟩ := id CF
  have hS : va_S A_ s_.heap s_.heap [] := va_S.rf
  have hl : lv_has ls 3 [(0, .ref x), (1, .int y), (2, .int w)] := hl
  have hf24 := hts (.fieldLink RX11 24 "DrawerCards" "now" "LDrawerCards$Shelf;") (by decide +kernel)
  have hinX11 := show ∀ w ∈ u_ws RX11 TX11 11, w ∈ wsX11_card from by decide +kernel
  have hc84 := hts (.constant RX11 84 (-1000001)) (by decide +kernel)
  have hf181 := va_Nw.use (A := args_) (w := .fieldLinkNest "DrawerCards" 181 "DrawerCards$Shelf" "in" "[I" "DrawerCards") rfl (hKN.2.1 _ (by decide +kernel))
  have hinX9 := show ∀ w ∈ u_ws RX9 TX9 8, w ∈ wsX11_card from by decide +kernel
  have hf202 := va_Nw.use (A := args_) (w := .fieldLinkNest "DrawerCards" 202 "DrawerCards$Shelf" "place" "[I" "DrawerCards") rfl (hKN.2.1 _ (by decide +kernel))
  have hf199 := va_Nw.use (A := args_) (w := .fieldLinkNest "DrawerCards" 199 "DrawerCards$Shelf" "likes" "[I" "DrawerCards") rfl (hKN.2.1 _ (by decide +kernel))
  obtain ⟨hC, hg, hs, hS0, hd, hd6, hpo, hze, hnb0⟩ := id hR
  have hn := hC.2.1
  have h3 : t0 3 = nI n := (by rw [hg.2.2.2.1]; exact hC.1)
  have hd1 : t0 1 = nI dr := (by rw [hg.2.1]; exact hd)
  have qE := em_iff (r := A 12) h3 hn (fun z => (hpo z).2) hze
  have q_y := one_iff hC y
  refine lv_aload_n hx hb dX11_card_0 rfl (lv_at hl 0 rfl) ?_
  refine va_get (ci := 10) (v := .ref a0) (C := RX11) (T := TX11) (N := 11) hx hb hts hinX11 hown hK hP 0 rfl rfl 3 (by decide) hf24 (fun _ h9 => h9) rfl dX11_card_1 ?_
  refine lv_iload_n hx hb dX11_card_4 rfl (lv_at hl 1 rfl) ?_
  refine call_i (wr := [(x, .inr (10, [.ref rw, .ref kk, .ref rd, .ref a0, .ref pp, .ref ii, .ref fo, .ref ak, .int (nI ac), .int fi, .int lf]))]) (ws' := (fun _ : Unit => [(x, .inr (10, [.ref rw, .ref kk, .ref rd, .ref a0, .ref pp, .ref ii, .ref fo, .ref ak, .int (nI ac), .int fi, .int lf])), (a0, .inr (8, [.ref (b0 0), .ref (b0 1), .ref (b0 2), .ref (b0 3), .int (t0 1), .int (t0 2), .int (t0 3), .int (t0 0)])), ((b0 0), wRef (cy 2) 8 S0), ((b0 1), wInt (cy 0) 8 (fun j => t0 (13 + j))), ((b0 2), wInt (cy 0) 8 (fun j => t0 (21 + j))), ((b0 3), wInt (cy 0) 8 (fun j => t0 (29 + j)))])) (va_runV (As := [.int y]) (rest := []) CF (k_X9_hasCard l D cy _ a0 b0 S0 t0 y n h3) (cwV 1 hts gX11_card_X9_hasCard rfl rfl rfl (by decide +kernel) ⟨Nat.le_of_ble_eq_true rfl, Nat.le_of_ble_eq_true rfl⟩) (pre_V hKN hP hD [1, 2, 3, 4, 5] rfl (by decide) 1 8 rfl rfl) rfl rfl hl.1 rfl (lv_room (Nat.le_of_ble_eq_true rfl)) dX11_card_5 ⟨Nat.le_of_ble_eq_true rfl, Nat.le_of_ble_eq_true rfl⟩) hS hA hP hD [1, 2, 3, 4, 5] [0] [0, 1, 2, 3, 4, 5] rfl rfl (by decide) (by decide) (fun _ => rfl) (by decide) (fun r2 u1 H locs hw3 hP hD hS => ?_)
  replace hw3 := hw3.symm; subst hw3
  refine ifneB (tgt := 14) hx hb dX11_card_8 (by decide) (fun c8 => ?_) (fun c8 => ?_)
  · replace c8 : (isC n y) := c8
    obtain ⟨k, h_k, rfl⟩ := isC_nat (by omega) c8
    have e_k : (nI k).toNatClampNeg = k := nI_clamp (by omega)
    refine lv_iload_n hx hb dX11_card_14 rfl (lv_at hl 2 rfl) ?_
    rcases sw_cases w 0 4 with c15 | ⟨c15k, c15l, c15⟩
    · have c15n := fun (j : Nat) (hj : (j : Int) ≤ 3) (hj2 : j < 100000) => sw_ne c15 j hj hj2
      refine lv_tableOut (tgt := 102) hx hb dX11_card_15 c15 (by decide) ?_
      refine lv_ldc hx hb hown hc84 dX11_card_102 ?_
      exact ret _ () _ _ _ _ dX11_card_104 (by try rw [q_y] at c8; simp (decide := true) [-not_and, -Int32.not_le, -Int32.not_lt, noOne, noDr, mCard, c8, e_k, c15n 0 (by decide) (by decide), c15n 1 (by decide) (by decide), c15n 2 (by decide) (by decide), c15n 3 (by decide) (by decide), hg.i h_k, hg.p h_k, hg.l h_k, hg.cd hC]) hP hD hS
    · rcases (show c15k = 0 ∨ c15k = 1 ∨ c15k = 2 ∨ c15k = 3 by omega) with c15e | c15e | c15e | c15e
      · subst c15e
        refine lv_tableIn (off := 29) (tgt := 44) hx hb dX11_card_15 (by omega) (by omega) (sw_at c15 rfl) (by decide) ?_
        have c15q := sw_eq c15 (by decide)
        refine lv_aload_n hx hb dX11_card_44 rfl (lv_at hl 0 rfl) ?_
        refine va_get (ci := 10) (v := .ref a0) (C := RX11) (T := TX11) (N := 11) hx hb hts hinX11 hown hK hP 0 rfl rfl 3 (by decide) hf24 (fun _ h9 => h9) rfl dX11_card_45 ?_
        refine va_getN (ci := 8) (v := .ref (b0 2)) (C := RX9) (T := TX9) (N := 8) hx hb hts hinX9 hown hK hP 1 rfl rfl 2 (by decide) hf181 (fun _ h9 => h9) rfl dX11_card_48 ?_
        refine lv_iload_n hx hb dX11_card_51 rfl (lv_at hl 1 rfl) ?_
        refine ldN (f := fun j => t0 (21 + j)) hx hb hK hP 4 rfl (j := k) (by omega) (by decide) dX11_card_52 ?_
        refine top_i (y := (t0 (21 + k))) rfl ?_
        exact ret _ () _ _ _ _ dX11_card_53 (by try rw [q_y] at c8; simp (decide := true) [-not_and, -Int32.not_le, -Int32.not_lt, noOne, noDr, mCard, c8, e_k, c15q, hg.i h_k, hg.p h_k, hg.l h_k, hg.cd hC]) hP hD hS
      · subst c15e
        refine lv_tableIn (off := 39) (tgt := 54) hx hb dX11_card_15 (by omega) (by omega) (sw_at c15 rfl) (by decide) ?_
        have c15q := sw_eq c15 (by decide)
        refine lv_aload_n hx hb dX11_card_54 rfl (lv_at hl 0 rfl) ?_
        refine va_get (ci := 10) (v := .ref a0) (C := RX11) (T := TX11) (N := 11) hx hb hts hinX11 hown hK hP 0 rfl rfl 3 (by decide) hf24 (fun _ h9 => h9) rfl dX11_card_55 ?_
        refine va_getN (ci := 8) (v := .ref (b0 3)) (C := RX9) (T := TX9) (N := 8) hx hb hts hinX9 hown hK hP 1 rfl rfl 3 (by decide) hf202 (fun _ h9 => h9) rfl dX11_card_58 ?_
        refine lv_iload_n hx hb dX11_card_61 rfl (lv_at hl 1 rfl) ?_
        refine ldN (f := fun j => t0 (29 + j)) hx hb hK hP 5 rfl (j := k) (by omega) (by decide) dX11_card_62 ?_
        refine top_i (y := (t0 (29 + k))) rfl ?_
        exact ret _ () _ _ _ _ dX11_card_63 (by try rw [q_y] at c8; simp (decide := true) [-not_and, -Int32.not_le, -Int32.not_lt, noOne, noDr, mCard, c8, e_k, c15q, hg.i h_k, hg.p h_k, hg.l h_k, hg.cd hC]) hP hD hS
      · subst c15e
        refine lv_tableIn (off := 49) (tgt := 64) hx hb dX11_card_15 (by omega) (by omega) (sw_at c15 rfl) (by decide) ?_
        have c15q := sw_eq c15 (by decide)
        refine lv_aload_n hx hb dX11_card_64 rfl (lv_at hl 0 rfl) ?_
        refine va_get (ci := 10) (v := .ref a0) (C := RX11) (T := TX11) (N := 11) hx hb hts hinX11 hown hK hP 0 rfl rfl 3 (by decide) hf24 (fun _ h9 => h9) rfl dX11_card_65 ?_
        refine va_getN (ci := 8) (v := .ref (b0 1)) (C := RX9) (T := TX9) (N := 8) hx hb hts hinX9 hown hK hP 1 rfl rfl 1 (by decide) hf199 (fun _ h9 => h9) rfl dX11_card_68 ?_
        refine lv_iload_n hx hb dX11_card_71 rfl (lv_at hl 1 rfl) ?_
        refine ldN (f := fun j => t0 (13 + j)) hx hb hK hP 3 rfl (j := k) (by omega) (by decide) dX11_card_72 ?_
        refine top_i (y := (t0 (13 + k))) rfl ?_
        exact ret _ () _ _ _ _ dX11_card_73 (by try rw [q_y] at c8; simp (decide := true) [-not_and, -Int32.not_le, -Int32.not_lt, noOne, noDr, mCard, c8, e_k, c15q, hg.i h_k, hg.p h_k, hg.l h_k, hg.cd hC]) hP hD hS
      · subst c15e
        refine lv_tableIn (off := 59) (tgt := 74) hx hb dX11_card_15 (by omega) (by omega) (sw_at c15 rfl) (by decide) ?_
        have c15q := sw_eq c15 (by decide)
        refine lv_aload_n hx hb dX11_card_74 rfl (lv_at hl 0 rfl) ?_
        refine va_get (ci := 10) (v := .ref a0) (C := RX11) (T := TX11) (N := 11) hx hb hts hinX11 hown hK hP 0 rfl rfl 3 (by decide) hf24 (fun _ h9 => h9) rfl dX11_card_75 ?_
        refine lv_aload_n hx hb dX11_card_78 rfl (lv_at hl 0 rfl) ?_
        refine va_get (ci := 10) (v := .ref a0) (C := RX11) (T := TX11) (N := 11) hx hb hts hinX11 hown hK hP 0 rfl rfl 3 (by decide) hf24 (fun _ h9 => h9) rfl dX11_card_79 ?_
        refine va_getN (ci := 8) (v := .ref (b0 2)) (C := RX9) (T := TX9) (N := 8) hx hb hts hinX9 hown hK hP 1 rfl rfl 2 (by decide) hf181 (fun _ h9 => h9) rfl dX11_card_82 ?_
        refine lv_iload_n hx hb dX11_card_85 rfl (lv_at hl 1 rfl) ?_
        refine ldN (f := fun j => t0 (21 + j)) hx hb hK hP 4 rfl (j := k) (by omega) (by decide) dX11_card_86 ?_
        refine top_i (y := (t0 (21 + k))) rfl ?_
        refine lv_aload_n hx hb dX11_card_87 rfl (lv_at hl 0 rfl) ?_
        refine va_get (ci := 10) (v := .ref a0) (C := RX11) (T := TX11) (N := 11) hx hb hts hinX11 hown hK hP 0 rfl rfl 3 (by decide) hf24 (fun _ h9 => h9) rfl dX11_card_88 ?_
        refine va_getN (ci := 8) (v := .ref (b0 3)) (C := RX9) (T := TX9) (N := 8) hx hb hts hinX9 hown hK hP 1 rfl rfl 3 (by decide) hf202 (fun _ h9 => h9) rfl dX11_card_91 ?_
        refine lv_iload_n hx hb dX11_card_94 rfl (lv_at hl 1 rfl) ?_
        refine ldN (f := fun j => t0 (29 + j)) hx hb hK hP 5 rfl (j := k) (by omega) (by decide) dX11_card_95 ?_
        refine top_i (y := (t0 (29 + k))) rfl ?_
        refine lv_iconst (v := nI 1) hx hb dX11_card_96 (by decide) ?_
        refine lv_isub hx hb dX11_card_97 ?_
        refine call_i (wr := [(x, .inr (10, [.ref rw, .ref kk, .ref rd, .ref a0, .ref pp, .ref ii, .ref fo, .ref ak, .int (nI ac), .int fi, .int lf]))]) (ws' := (fun _ : Unit => [(x, .inr (10, [.ref rw, .ref kk, .ref rd, .ref a0, .ref pp, .ref ii, .ref fo, .ref ak, .int (nI ac), .int fi, .int lf])), (a0, .inr (8, [.ref (b0 0), .ref (b0 1), .ref (b0 2), .ref (b0 3), .int (t0 1), .int (t0 2), .int (t0 3), .int (t0 0)])), ((b0 0), wRef (cy 2) 8 S0), ((b0 1), wInt (cy 0) 8 (fun j => t0 (13 + j))), ((b0 2), wInt (cy 0) 8 (fun j => t0 (21 + j))), ((b0 3), wInt (cy 0) 8 (fun j => t0 (29 + j)))])) (va_runV (As := [.int (t0 (21 + k)), .int (t0 (29 + k) - nI 1)]) (rest := []) CF (k_X9_cardAt l D cy _ a0 b0 S0 t0 (t0 (21 + k)) (t0 (29 + k) - nI 1) n (by first | assumption | omega | decide) h3) (cwV 2 hts gX11_card_X9_cardAt rfl rfl rfl (by decide +kernel) ⟨Nat.le_of_ble_eq_true rfl, Nat.le_of_ble_eq_true rfl⟩) (pre_V hKN hP hD [1, 2, 3, 4, 5] rfl (by decide) 1 8 rfl rfl) rfl rfl hl.1 rfl (lv_room (Nat.le_of_ble_eq_true rfl)) dX11_card_98 ⟨Nat.le_of_ble_eq_true rfl, Nat.le_of_ble_eq_true rfl⟩) hS hA hP hD [1, 2, 3, 4, 5] [0] [0, 1, 2, 3, 4, 5] rfl rfl (by decide) (by decide) (fun _ => rfl) (by decide) (fun r5 u4 H locs hw6 hP hD hS => ?_)
        replace hw6 := hw6.symm; subst hw6
        exact ret _ () _ _ _ _ dX11_card_101 (by try rw [q_y] at c8; simp (decide := true) [-not_and, -Int32.not_le, -Int32.not_lt, noOne, noDr, mCard, c8, e_k, c15q, hg.i h_k, hg.p h_k, hg.l h_k, hg.cd hC]) hP hD hS
  · replace c8 : ¬ (isC n y) := c8
    refine lv_ldc hx hb hown hc84 dX11_card_11 ?_
    exact ret _ () _ _ _ _ dX11_card_13 (by try rw [q_y] at c8; simp (decide := true) [-not_and, -Int32.not_le, -Int32.not_lt, noOne, noDr, mCard, c8]) hP hD hS
set_option maxHeartbeats 4000000 in
set_option maxRecDepth 100000 in
theorem k_X11_drawer (l : Launch) (D : va_G) (cy : Nat → ClassId) (sz : Nat) (x : Nat) (rw : Nat) (kk : Nat) (rd : Nat) (a0 : Nat) (pp : Nat) (ii : Nat) (fo : Nat) (ak : Nat) (ac : Nat) (fi : Int32) (lf : Int32) (b0 : Nat → Nat) (S0 : Nat → Option Nat) (t0 : Nat → Int32) (kd : Nat → Nat) (A : Nat → Nat → Int32) (n : Nat) (dr : Nat) (d0 : Int32) (w : Int32) (hR : catR kd S0 t0 (A 12) n dr) : Met l yX11_drawer wsX11_drawer (rmD 2) (pPre D (TY cy) ([(x, .inr (10, [.ref rw, .ref kk, .ref rd, .ref a0, .ref pp, .ref ii, .ref fo, .ref ak, .int (nI ac), .int fi, .int lf])), (a0, .inr (8, [.ref (b0 0), .ref (b0 1), .ref (b0 2), .ref (b0 3), .int (t0 1), .int (t0 2), .int (t0 3), .int (t0 0)])), ((b0 0), wRef (cy 2) 8 S0), ((b0 1), wInt (cy 0) 8 (fun j => t0 (13 + j))), ((b0 2), wInt (cy 0) 8 (fun j => t0 (21 + j))), ((b0 3), wInt (cy 0) 8 (fun j => t0 (29 + j)))]) sz [.ref x, .int d0, .int w]) (pI D (TY cy) ([(x, .inr (10, [.ref rw, .ref kk, .ref rd, .ref a0, .ref pp, .ref ii, .ref fo, .ref ak, .int (nI ac), .int fi, .int lf])), (a0, .inr (8, [.ref (b0 0), .ref (b0 1), .ref (b0 2), .ref (b0 3), .int (t0 1), .int (t0 2), .int (t0 3), .int (t0 0)])), ((b0 0), wRef (cy 2) 8 S0), ((b0 1), wInt (cy 0) 8 (fun j => t0 (13 + j))), ((b0 2), wInt (cy 0) 8 (fun j => t0 (21 + j))), ((b0 3), wInt (cy 0) 8 (fun j => t0 (29 + j)))]) sz (fun _ : Unit => [(x, .inr (10, [.ref rw, .ref kk, .ref rd, .ref a0, .ref pp, .ref ii, .ref fo, .ref ak, .int (nI ac), .int fi, .int lf])), (a0, .inr (8, [.ref (b0 0), .ref (b0 1), .ref (b0 2), .ref (b0 3), .int (t0 1), .int (t0 2), .int (t0 3), .int (t0 0)])), ((b0 0), wRef (cy 2) 8 S0), ((b0 1), wInt (cy 0) 8 (fun j => t0 (13 + j))), ((b0 2), wInt (cy 0) 8 (fun j => t0 (21 + j))), ((b0 3), wInt (cy 0) 8 (fun j => t0 (29 + j)))]) (fun (r_ : Int32) (_ : Unit) => r_ = (mDrawer A n d0 w))) 0 0 (va_A ([(x, .inr (10, [.ref rw, .ref kk, .ref rd, .ref a0, .ref pp, .ref ii, .ref fo, .ref ak, .int (nI ac), .int fi, .int lf])), (a0, .inr (8, [.ref (b0 0), .ref (b0 1), .ref (b0 2), .ref (b0 3), .int (t0 1), .int (t0 2), .int (t0 3), .int (t0 0)])), ((b0 0), wRef (cy 2) 8 S0), ((b0 1), wInt (cy 0) 8 (fun j => t0 (13 + j))), ((b0 2), wInt (cy 0) 8 (fun j => t0 (21 + j))), ((b0 3), wInt (cy 0) 8 (fun j => t0 (29 + j)))]) sz) := by
  refine ent_i (cc := cX11_drawer) (maxL := 3) (by decide +kernel) rfl (Nat.le_of_ble_eq_true rfl) ?_
  intro p_ e_ s_ m_ args_ below_ meth_ c_ A_ Q_ ls B0 ret
  obtain ⟨CF, hA, hKN, hP, hD, hl⟩ := B0
  have hK := hKN.1
  obtain ⟨hx, hb, hml, hown, hts⟩ := id CF
  have hS : va_S A_ s_.heap s_.heap [] := va_S.rf
  have hl : lv_has ls 3 [(0, .ref x), (1, .int d0), (2, .int w)] := hl
  have hf24 := hts (.fieldLink RX11 24 "DrawerCards" "now" "LDrawerCards$Shelf;") (by decide +kernel)
  have hinX11 := show ∀ w ∈ u_ws RX11 TX11 11, w ∈ wsX11_drawer from by decide +kernel
  have hc84 := hts (.constant RX11 84 (-1000001)) (by decide +kernel)
  obtain ⟨hC, hg, hs, hS0, hd, hd6, hpo, hze, hnb0⟩ := id hR
  have hn := hC.2.1
  have h3 : t0 3 = nI n := (by rw [hg.2.2.2.1]; exact hC.1)
  have hd1 : t0 1 = nI dr := (by rw [hg.2.1]; exact hd)
  have qE := em_iff (r := A 12) h3 hn (fun z => (hpo z).2) hze
  have w_d0 := dr_iff (A := A) hd hd6 d0
  refine lv_aload_n hx hb dX11_drawer_0 rfl (lv_at hl 0 rfl) ?_
  refine va_get (ci := 10) (v := .ref a0) (C := RX11) (T := TX11) (N := 11) hx hb hts hinX11 hown hK hP 0 rfl rfl 3 (by decide) hf24 (fun _ h9 => h9) rfl dX11_drawer_1 ?_
  refine lv_iload_n hx hb dX11_drawer_4 rfl (lv_at hl 1 rfl) ?_
  refine call_i (wr := [(x, .inr (10, [.ref rw, .ref kk, .ref rd, .ref a0, .ref pp, .ref ii, .ref fo, .ref ak, .int (nI ac), .int fi, .int lf]))]) (ws' := (fun _ : Unit => [(x, .inr (10, [.ref rw, .ref kk, .ref rd, .ref a0, .ref pp, .ref ii, .ref fo, .ref ak, .int (nI ac), .int fi, .int lf])), (a0, .inr (8, [.ref (b0 0), .ref (b0 1), .ref (b0 2), .ref (b0 3), .int (t0 1), .int (t0 2), .int (t0 3), .int (t0 0)])), ((b0 0), wRef (cy 2) 8 S0), ((b0 1), wInt (cy 0) 8 (fun j => t0 (13 + j))), ((b0 2), wInt (cy 0) 8 (fun j => t0 (21 + j))), ((b0 3), wInt (cy 0) 8 (fun j => t0 (29 + j)))])) (va_runV (As := [.int d0]) (rest := []) CF (k_X9_hasDrawer l D cy _ a0 b0 S0 t0 d0 dr hd1) (cwV 1 hts gX11_drawer_X9_hasDrawer rfl rfl rfl (by decide +kernel) ⟨Nat.le_of_ble_eq_true rfl, Nat.le_of_ble_eq_true rfl⟩) (pre_V hKN hP hD [1, 2, 3, 4, 5] rfl (by decide) 1 8 rfl rfl) rfl rfl hl.1 rfl (lv_room (Nat.le_of_ble_eq_true rfl)) dX11_drawer_5 ⟨Nat.le_of_ble_eq_true rfl, Nat.le_of_ble_eq_true rfl⟩) hS hA hP hD [1, 2, 3, 4, 5] [0] [0, 1, 2, 3, 4, 5] rfl rfl (by decide) (by decide) (fun _ => rfl) (by decide) (fun r2 u1 H locs hw3 hP hD hS => ?_)
  replace hw3 := hw3.symm; subst hw3
  refine ifneB (tgt := 14) hx hb dX11_drawer_8 (by decide) (fun c8 => ?_) (fun c8 => ?_)
  · replace c8 : (isC dr d0) := c8
    refine lv_iload_n hx hb dX11_drawer_14 rfl (lv_at hl 2 rfl) ?_
    rcases sw_cases w 0 3 with c15 | ⟨c15k, c15l, c15⟩
    · have c15n := fun (j : Nat) (hj : (j : Int) ≤ 2) (hj2 : j < 100000) => sw_ne c15 j hj hj2
      refine lv_tableOut (tgt := 68) hx hb dX11_drawer_15 c15 (by decide) ?_
      refine lv_ldc hx hb hown hc84 dX11_drawer_68 ?_
      exact ret _ () _ _ _ _ dX11_drawer_70 (by try rw [w_d0] at c8; simp (decide := true) [-not_and, -Int32.not_le, -Int32.not_lt, noOne, noDr, mDrawer, c8, c15n 0 (by decide) (by decide), c15n 1 (by decide) (by decide), c15n 2 (by decide) (by decide), hg.fill, hg.cards d0 n (Nat.le_refl n), hg.cd hC]; try exact fun z => absurd z (c15n 0 (by decide) (by decide))) hP hD hS
    · rcases (show c15k = 0 ∨ c15k = 1 ∨ c15k = 2 by omega) with c15e | c15e | c15e
      · subst c15e
        refine lv_tableIn (off := 25) (tgt := 40) hx hb dX11_drawer_15 (by omega) (by omega) (sw_at c15 rfl) (by decide) ?_
        have c15q := sw_eq c15 (by decide)
        refine lv_aload_n hx hb dX11_drawer_40 rfl (lv_at hl 0 rfl) ?_
        refine va_get (ci := 10) (v := .ref a0) (C := RX11) (T := TX11) (N := 11) hx hb hts hinX11 hown hK hP 0 rfl rfl 3 (by decide) hf24 (fun _ h9 => h9) rfl dX11_drawer_41 ?_
        refine lv_iload_n hx hb dX11_drawer_44 rfl (lv_at hl 1 rfl) ?_
        refine call_i (wr := [(x, .inr (10, [.ref rw, .ref kk, .ref rd, .ref a0, .ref pp, .ref ii, .ref fo, .ref ak, .int (nI ac), .int fi, .int lf]))]) (ws' := (fun _ : Unit => [(x, .inr (10, [.ref rw, .ref kk, .ref rd, .ref a0, .ref pp, .ref ii, .ref fo, .ref ak, .int (nI ac), .int fi, .int lf])), (a0, .inr (8, [.ref (b0 0), .ref (b0 1), .ref (b0 2), .ref (b0 3), .int (t0 1), .int (t0 2), .int (t0 3), .int (t0 0)])), ((b0 0), wRef (cy 2) 8 S0), ((b0 1), wInt (cy 0) 8 (fun j => t0 (13 + j))), ((b0 2), wInt (cy 0) 8 (fun j => t0 (21 + j))), ((b0 3), wInt (cy 0) 8 (fun j => t0 (29 + j)))])) (va_runV (As := [.int d0]) (rest := []) CF (k_X9_fill l D cy _ a0 b0 S0 t0 d0 n (by first | assumption | omega | decide) h3) (cwV 1 hts gX11_drawer_X9_fill rfl rfl rfl (by decide +kernel) ⟨Nat.le_of_ble_eq_true rfl, Nat.le_of_ble_eq_true rfl⟩) (pre_V hKN hP hD [1, 2, 3, 4, 5] rfl (by decide) 1 8 rfl rfl) rfl rfl hl.1 rfl (lv_room (Nat.le_of_ble_eq_true rfl)) dX11_drawer_45 ⟨Nat.le_of_ble_eq_true rfl, Nat.le_of_ble_eq_true rfl⟩) hS hA hP hD [1, 2, 3, 4, 5] [0] [0, 1, 2, 3, 4, 5] rfl rfl (by decide) (by decide) (fun _ => rfl) (by decide) (fun r5 u4 H locs hw6 hP hD hS => ?_)
        replace hw6 := hw6.symm; subst hw6
        exact ret _ () _ _ _ _ dX11_drawer_48 (by try rw [w_d0] at c8; simp (decide := true) [-not_and, -Int32.not_le, -Int32.not_lt, noOne, noDr, mDrawer, c8, c15q, hg.fill, hg.cards d0 n (Nat.le_refl n), hg.cd hC]) hP hD hS
      · subst c15e
        refine lv_tableIn (off := 34) (tgt := 49) hx hb dX11_drawer_15 (by omega) (by omega) (sw_at c15 rfl) (by decide) ?_
        have c15q := sw_eq c15 (by decide)
        refine lv_aload_n hx hb dX11_drawer_49 rfl (lv_at hl 0 rfl) ?_
        refine va_get (ci := 10) (v := .ref a0) (C := RX11) (T := TX11) (N := 11) hx hb hts hinX11 hown hK hP 0 rfl rfl 3 (by decide) hf24 (fun _ h9 => h9) rfl dX11_drawer_50 ?_
        refine lv_iload_n hx hb dX11_drawer_53 rfl (lv_at hl 1 rfl) ?_
        refine call_i (wr := [(x, .inr (10, [.ref rw, .ref kk, .ref rd, .ref a0, .ref pp, .ref ii, .ref fo, .ref ak, .int (nI ac), .int fi, .int lf]))]) (ws' := (fun _ : Unit => [(x, .inr (10, [.ref rw, .ref kk, .ref rd, .ref a0, .ref pp, .ref ii, .ref fo, .ref ak, .int (nI ac), .int fi, .int lf])), (a0, .inr (8, [.ref (b0 0), .ref (b0 1), .ref (b0 2), .ref (b0 3), .int (t0 1), .int (t0 2), .int (t0 3), .int (t0 0)])), ((b0 0), wRef (cy 2) 8 S0), ((b0 1), wInt (cy 0) 8 (fun j => t0 (13 + j))), ((b0 2), wInt (cy 0) 8 (fun j => t0 (21 + j))), ((b0 3), wInt (cy 0) 8 (fun j => t0 (29 + j)))])) (va_runV (As := [.int d0]) (rest := []) CF (k_X9_cardBits l D cy _ a0 b0 S0 t0 d0 n (by first | assumption | omega | decide) h3) (cwV 1 hts gX11_drawer_X9_cardBits rfl rfl rfl (by decide +kernel) ⟨Nat.le_of_ble_eq_true rfl, Nat.le_of_ble_eq_true rfl⟩) (pre_V hKN hP hD [1, 2, 3, 4, 5] rfl (by decide) 1 8 rfl rfl) rfl rfl hl.1 rfl (lv_room (Nat.le_of_ble_eq_true rfl)) dX11_drawer_54 ⟨Nat.le_of_ble_eq_true rfl, Nat.le_of_ble_eq_true rfl⟩) hS hA hP hD [1, 2, 3, 4, 5] [0] [0, 1, 2, 3, 4, 5] rfl rfl (by decide) (by decide) (fun _ => rfl) (by decide) (fun r8 u7 H locs hw9 hP hD hS => ?_)
        replace hw9 := hw9.symm; subst hw9
        exact ret _ () _ _ _ _ dX11_drawer_57 (by try rw [w_d0] at c8; simp (decide := true) [-not_and, -Int32.not_le, -Int32.not_lt, noOne, noDr, mDrawer, c8, c15q, hg.fill, hg.cards d0 n (Nat.le_refl n), hg.cd hC]) hP hD hS
      · subst c15e
        refine lv_tableIn (off := 43) (tgt := 58) hx hb dX11_drawer_15 (by omega) (by omega) (sw_at c15 rfl) (by decide) ?_
        have c15q := sw_eq c15 (by decide)
        refine lv_aload_n hx hb dX11_drawer_58 rfl (lv_at hl 0 rfl) ?_
        refine va_get (ci := 10) (v := .ref a0) (C := RX11) (T := TX11) (N := 11) hx hb hts hinX11 hown hK hP 0 rfl rfl 3 (by decide) hf24 (fun _ h9 => h9) rfl dX11_drawer_59 ?_
        refine lv_iload_n hx hb dX11_drawer_62 rfl (lv_at hl 1 rfl) ?_
        refine lv_iconst (v := nI 0) hx hb dX11_drawer_63 (by decide) ?_
        refine call_i (wr := [(x, .inr (10, [.ref rw, .ref kk, .ref rd, .ref a0, .ref pp, .ref ii, .ref fo, .ref ak, .int (nI ac), .int fi, .int lf]))]) (ws' := (fun _ : Unit => [(x, .inr (10, [.ref rw, .ref kk, .ref rd, .ref a0, .ref pp, .ref ii, .ref fo, .ref ak, .int (nI ac), .int fi, .int lf])), (a0, .inr (8, [.ref (b0 0), .ref (b0 1), .ref (b0 2), .ref (b0 3), .int (t0 1), .int (t0 2), .int (t0 3), .int (t0 0)])), ((b0 0), wRef (cy 2) 8 S0), ((b0 1), wInt (cy 0) 8 (fun j => t0 (13 + j))), ((b0 2), wInt (cy 0) 8 (fun j => t0 (21 + j))), ((b0 3), wInt (cy 0) 8 (fun j => t0 (29 + j)))])) (va_runV (As := [.int d0, .int (nI 0)]) (rest := []) CF (k_X9_cardAt l D cy _ a0 b0 S0 t0 d0 (nI 0) n (by first | assumption | omega | decide) h3) (cwV 2 hts gX11_drawer_X9_cardAt rfl rfl rfl (by decide +kernel) ⟨Nat.le_of_ble_eq_true rfl, Nat.le_of_ble_eq_true rfl⟩) (pre_V hKN hP hD [1, 2, 3, 4, 5] rfl (by decide) 1 8 rfl rfl) rfl rfl hl.1 rfl (lv_room (Nat.le_of_ble_eq_true rfl)) dX11_drawer_64 ⟨Nat.le_of_ble_eq_true rfl, Nat.le_of_ble_eq_true rfl⟩) hS hA hP hD [1, 2, 3, 4, 5] [0] [0, 1, 2, 3, 4, 5] rfl rfl (by decide) (by decide) (fun _ => rfl) (by decide) (fun r11 u10 H locs hw12 hP hD hS => ?_)
        replace hw12 := hw12.symm; subst hw12
        exact ret _ () _ _ _ _ dX11_drawer_67 (by try rw [w_d0] at c8; simp (decide := true) [-not_and, -Int32.not_le, -Int32.not_lt, noOne, noDr, mDrawer, c8, c15q, hg.fill, hg.cards d0 n (Nat.le_refl n), hg.cd hC]) hP hD hS
  · replace c8 : ¬ (isC dr d0) := c8
    refine lv_ldc hx hb hown hc84 dX11_drawer_11 ?_
    exact ret _ () _ _ _ _ dX11_drawer_13 (by try rw [w_d0] at c8; simp (decide := true) [-not_and, -Int32.not_le, -Int32.not_lt, noOne, noDr, mDrawer, c8, hg.fill, hg.cards d0 n (Nat.le_refl n), hg.cd hC]) hP hD hS
set_option maxHeartbeats 4000000 in
set_option maxRecDepth 100000 in
theorem k_X11_mates (l : Launch) (D : va_G) (cy : Nat → ClassId) (sz : Nat) (x : Nat) (rw : Nat) (kk : Nat) (rd : Nat) (a0 : Nat) (pp : Nat) (ii : Nat) (fo : Nat) (ak : Nat) (ac : Nat) (fi : Int32) (lf : Int32) (b0 : Nat → Nat) (S0 : Nat → Option Nat) (t0 : Nat → Int32) (kd : Nat → Nat) (A : Nat → Nat → Int32) (n : Nat) (dr : Nat) (hR : catR kd S0 t0 (A 12) n dr) : Met l yX11_mates wsX11_mates (rmD 3) (pPre D (TY cy) ([(x, .inr (10, [.ref rw, .ref kk, .ref rd, .ref a0, .ref pp, .ref ii, .ref fo, .ref ak, .int (nI ac), .int fi, .int lf])), (a0, .inr (8, [.ref (b0 0), .ref (b0 1), .ref (b0 2), .ref (b0 3), .int (t0 1), .int (t0 2), .int (t0 3), .int (t0 0)])), ((b0 0), wRef (cy 2) 8 S0), ((b0 1), wInt (cy 0) 8 (fun j => t0 (13 + j))), ((b0 2), wInt (cy 0) 8 (fun j => t0 (21 + j))), ((b0 3), wInt (cy 0) 8 (fun j => t0 (29 + j)))]) sz [.ref x]) (pI D (TY cy) ([(x, .inr (10, [.ref rw, .ref kk, .ref rd, .ref a0, .ref pp, .ref ii, .ref fo, .ref ak, .int (nI ac), .int fi, .int lf])), (a0, .inr (8, [.ref (b0 0), .ref (b0 1), .ref (b0 2), .ref (b0 3), .int (t0 1), .int (t0 2), .int (t0 3), .int (t0 0)])), ((b0 0), wRef (cy 2) 8 S0), ((b0 1), wInt (cy 0) 8 (fun j => t0 (13 + j))), ((b0 2), wInt (cy 0) 8 (fun j => t0 (21 + j))), ((b0 3), wInt (cy 0) 8 (fun j => t0 (29 + j)))]) sz (fun _ : Unit => [(x, .inr (10, [.ref rw, .ref kk, .ref rd, .ref a0, .ref pp, .ref ii, .ref fo, .ref ak, .int (nI ac), .int fi, .int lf])), (a0, .inr (8, [.ref (b0 0), .ref (b0 1), .ref (b0 2), .ref (b0 3), .int (t0 1), .int (t0 2), .int (t0 3), .int (t0 0)])), ((b0 0), wRef (cy 2) 8 S0), ((b0 1), wInt (cy 0) 8 (fun j => t0 (13 + j))), ((b0 2), wInt (cy 0) 8 (fun j => t0 (21 + j))), ((b0 3), wInt (cy 0) 8 (fun j => t0 (29 + j)))]) (fun (r_ : Int32) (_ : Unit) => r_ = (mMates A n))) 0 0 (va_A ([(x, .inr (10, [.ref rw, .ref kk, .ref rd, .ref a0, .ref pp, .ref ii, .ref fo, .ref ak, .int (nI ac), .int fi, .int lf])), (a0, .inr (8, [.ref (b0 0), .ref (b0 1), .ref (b0 2), .ref (b0 3), .int (t0 1), .int (t0 2), .int (t0 3), .int (t0 0)])), ((b0 0), wRef (cy 2) 8 S0), ((b0 1), wInt (cy 0) 8 (fun j => t0 (13 + j))), ((b0 2), wInt (cy 0) 8 (fun j => t0 (21 + j))), ((b0 3), wInt (cy 0) 8 (fun j => t0 (29 + j)))]) sz) := by
  refine ent_i (cc := cX11_mates) (maxL := 1) (by decide +kernel) rfl (Nat.le_of_ble_eq_true rfl) ?_
  intro p_ e_ s_ m_ args_ below_ meth_ c_ A_ Q_ ls B0 ret
  obtain ⟨CF, hA, hKN, hP, hD, hl⟩ := B0
  have hK := hKN.1
  obtain ⟨hx, hb, hml, hown, hts⟩ := id CF
  have hS : va_S A_ s_.heap s_.heap [] := va_S.rf
  have hl : lv_has ls 1 [(0, .ref x)] := hl
  have hf24 := hts (.fieldLink RX11 24 "DrawerCards" "now" "LDrawerCards$Shelf;") (by decide +kernel)
  have hinX11 := show ∀ w ∈ u_ws RX11 TX11 11, w ∈ wsX11_mates from by decide +kernel
  have hc160 := hts (.constant RX11 160 (-1000002)) (by decide +kernel)
  obtain ⟨hC, hg, hs, hS0, hd, hd6, hpo, hze, hnb0⟩ := id hR
  have hn := hC.2.1
  have h3 : t0 3 = nI n := (by rw [hg.2.2.2.1]; exact hC.1)
  have hd1 : t0 1 = nI dr := (by rw [hg.2.1]; exact hd)
  have qE := em_iff (r := A 12) h3 hn (fun z => (hpo z).2) hze
  refine lv_aload_n hx hb dX11_mates_0 rfl (lv_at hl 0 rfl) ?_
  refine va_get (ci := 10) (v := .ref a0) (C := RX11) (T := TX11) (N := 11) hx hb hts hinX11 hown hK hP 0 rfl rfl 3 (by decide) hf24 (fun _ h9 => h9) rfl dX11_mates_1 ?_
  refine call_i (wr := [(x, .inr (10, [.ref rw, .ref kk, .ref rd, .ref a0, .ref pp, .ref ii, .ref fo, .ref ak, .int (nI ac), .int fi, .int lf]))]) (ws' := (fun _ : Unit => [(x, .inr (10, [.ref rw, .ref kk, .ref rd, .ref a0, .ref pp, .ref ii, .ref fo, .ref ak, .int (nI ac), .int fi, .int lf])), (a0, .inr (8, [.ref (b0 0), .ref (b0 1), .ref (b0 2), .ref (b0 3), .int (t0 1), .int (t0 2), .int (t0 3), .int (t0 0)])), ((b0 0), wRef (cy 2) 8 S0), ((b0 1), wInt (cy 0) 8 (fun j => t0 (13 + j))), ((b0 2), wInt (cy 0) 8 (fun j => t0 (21 + j))), ((b0 3), wInt (cy 0) 8 (fun j => t0 (29 + j)))])) (va_runV (As := []) (rest := []) CF (k_X9_isEmpty l D cy _ a0 b0 S0 t0 ) (cwV 0 hts gX11_mates_X9_isEmpty rfl rfl rfl (by decide +kernel) ⟨Nat.le_of_ble_eq_true rfl, Nat.le_of_ble_eq_true rfl⟩) (pre_V hKN hP hD [1, 2, 3, 4, 5] rfl (by decide) 1 8 rfl rfl) rfl rfl hl.1 rfl (lv_room (Nat.le_of_ble_eq_true rfl)) dX11_mates_4 ⟨Nat.le_of_ble_eq_true rfl, Nat.le_of_ble_eq_true rfl⟩) hS hA hP hD [1, 2, 3, 4, 5] [0] [0, 1, 2, 3, 4, 5] rfl rfl (by decide) (by decide) (fun _ => rfl) (by decide) (fun r2 u1 H locs hw3 hP hD hS => ?_)
  replace hw3 := hw3.symm; subst hw3
  refine ifeqB (tgt := 15) hx hb dX11_mates_7 (by decide) (fun c7 => ?_) (fun c7 => ?_)
  · replace c7 : ¬ (t0 3 = 0) := c7
    refine lv_aload_n hx hb dX11_mates_15 rfl (lv_at hl 0 rfl) ?_
    refine va_get (ci := 10) (v := .ref a0) (C := RX11) (T := TX11) (N := 11) hx hb hts hinX11 hown hK hP 0 rfl rfl 3 (by decide) hf24 (fun _ h9 => h9) rfl dX11_mates_16 ?_
    refine call_i (wr := [(x, .inr (10, [.ref rw, .ref kk, .ref rd, .ref a0, .ref pp, .ref ii, .ref fo, .ref ak, .int (nI ac), .int fi, .int lf]))]) (ws' := (fun _ : Unit => [(x, .inr (10, [.ref rw, .ref kk, .ref rd, .ref a0, .ref pp, .ref ii, .ref fo, .ref ak, .int (nI ac), .int fi, .int lf])), (a0, .inr (8, [.ref (b0 0), .ref (b0 1), .ref (b0 2), .ref (b0 3), .int (t0 1), .int (t0 2), .int (t0 3), .int (t0 0)])), ((b0 0), wRef (cy 2) 8 S0), ((b0 1), wInt (cy 0) 8 (fun j => t0 (13 + j))), ((b0 2), wInt (cy 0) 8 (fun j => t0 (21 + j))), ((b0 3), wInt (cy 0) 8 (fun j => t0 (29 + j)))])) (va_runV (As := []) (rest := []) CF (k_X9_mateBits l D cy _ a0 b0 S0 t0 n (by first | assumption | omega | decide) h3) (cwV 0 hts gX11_mates_X9_mateBits rfl rfl rfl (by decide +kernel) ⟨Nat.le_of_ble_eq_true rfl, Nat.le_of_ble_eq_true rfl⟩) (pre_V hKN hP hD [1, 2, 3, 4, 5] rfl (by decide) 1 8 rfl rfl) rfl rfl hl.1 rfl (lv_room (Nat.le_of_ble_eq_true rfl)) dX11_mates_19 ⟨Nat.le_of_ble_eq_true rfl, Nat.le_of_ble_eq_true rfl⟩) hS hA hP hD [1, 2, 3, 4, 5] [0] [0, 1, 2, 3, 4, 5] rfl rfl (by decide) (by decide) (fun _ => rfl) (by decide) (fun r5 u4 H locs hw6 hP hD hS => ?_)
    replace hw6 := hw6.symm; subst hw6
    exact ret _ () _ _ _ _ dX11_mates_22 (by try rw [qE] at c7; simp (decide := true) [-not_and, -Int32.not_le, -Int32.not_lt, noOne, noDr, mMates, c7, hg.mt hC]) hP hD hS
  · replace c7 : (t0 3 = 0) := c7
    refine lv_ldc hx hb hown hc160 dX11_mates_10 ?_
    refine lv_goto (tgt := 22) hx hb dX11_mates_12 (by decide) ?_
    exact ret _ () _ _ _ _ dX11_mates_22 (by try rw [qE] at c7; simp (decide := true) [-not_and, -Int32.not_le, -Int32.not_lt, noOne, noDr, mMates, c7, hg.mt hC]) hP hD hS
