set_option maxHeartbeats 4000000 in
set_option maxRecDepth 100000 in
theorem k_X3_number (l : Launch) (D : va_G) (cy : Nat → ClassId) (sz : Nat) (g : Nat)  : Met l yX3_number wsX3_number (rmD 0) (pPre D (TY cy) ([]) sz [.ref g]) (pI D (TY cy) ([]) sz (fun _ : Unit => []) (fun (r_ : Int32) (_ : Unit) => r_ = nI 1)) 0 0 (va_A ([]) sz) := by
  refine ent_i (cc := cX3_number) (maxL := 1) (by decide +kernel) rfl (Nat.le_of_ble_eq_true rfl) ?_
  intro p_ e_ s_ m_ args_ below_ meth_ c_ A_ Q_ ls B0 ret
  obtain ⟨CF, hA, hKN, hP, hD, hl⟩ := B0
  have hK := hKN.1
  obtain ⟨hx, hb, hml, hown, hts⟩ := id CF
  have hS : va_S A_ s_.heap s_.heap [] := va_S.rf
  have hl : lv_has ls 1 [(0, .ref g)] := hl
  refine lv_iconst (v := nI 1) hx hb dX3_number_0 (by decide) ?_
  exact ret _ () _ _ _ _ dX3_number_1 rfl hP hD hS
set_option maxHeartbeats 4000000 in
set_option maxRecDepth 100000 in
theorem k_X3_letter (l : Launch) (D : va_G) (cy : Nat → ClassId) (sz : Nat) (g : Nat)  : Met l yX3_letter wsX3_letter (rmD 0) (pPre D (TY cy) ([]) sz [.ref g]) (pI D (TY cy) ([]) sz (fun _ : Unit => []) (fun (r_ : Int32) (_ : Unit) => r_ = nI 102)) 0 0 (va_A ([]) sz) := by
  refine ent_z (cc := cX3_letter) (maxL := 1) (by decide +kernel) rfl (Nat.le_of_ble_eq_true rfl) ?_
  intro p_ e_ s_ m_ args_ below_ meth_ c_ A_ Q_ ls B0 ret
  obtain ⟨CF, hA, hKN, hP, hD, hl⟩ := B0
  have hK := hKN.1
  obtain ⟨hx, hb, hml, hown, hts⟩ := id CF
  have hS : va_S A_ s_.heap s_.heap [] := va_S.rf
  have hl : lv_has ls 1 [(0, .ref g)] := hl
  refine lv_bipush (v := nI 102) hx hb dX3_letter_0 (by decide) ?_
  exact ret _ () _ _ _ _ dX3_letter_2 rfl rfl hP hD hS
set_option maxHeartbeats 4000000 in
set_option maxRecDepth 100000 in
theorem k_X5_number (l : Launch) (D : va_G) (cy : Nat → ClassId) (sz : Nat) (g : Nat)  : Met l yX5_number wsX5_number (rmD 0) (pPre D (TY cy) ([]) sz [.ref g]) (pI D (TY cy) ([]) sz (fun _ : Unit => []) (fun (r_ : Int32) (_ : Unit) => r_ = nI 2)) 0 0 (va_A ([]) sz) := by
  refine ent_i (cc := cX5_number) (maxL := 1) (by decide +kernel) rfl (Nat.le_of_ble_eq_true rfl) ?_
  intro p_ e_ s_ m_ args_ below_ meth_ c_ A_ Q_ ls B0 ret
  obtain ⟨CF, hA, hKN, hP, hD, hl⟩ := B0
  have hK := hKN.1
  obtain ⟨hx, hb, hml, hown, hts⟩ := id CF
  have hS : va_S A_ s_.heap s_.heap [] := va_S.rf
  have hl : lv_has ls 1 [(0, .ref g)] := hl
  refine lv_iconst (v := nI 2) hx hb dX5_number_0 (by decide) ?_
  exact ret _ () _ _ _ _ dX5_number_1 rfl hP hD hS
set_option maxHeartbeats 4000000 in
set_option maxRecDepth 100000 in
theorem k_X5_letter (l : Launch) (D : va_G) (cy : Nat → ClassId) (sz : Nat) (g : Nat)  : Met l yX5_letter wsX5_letter (rmD 0) (pPre D (TY cy) ([]) sz [.ref g]) (pI D (TY cy) ([]) sz (fun _ : Unit => []) (fun (r_ : Int32) (_ : Unit) => r_ = nI 111)) 0 0 (va_A ([]) sz) := by
  refine ent_z (cc := cX5_letter) (maxL := 1) (by decide +kernel) rfl (Nat.le_of_ble_eq_true rfl) ?_
  intro p_ e_ s_ m_ args_ below_ meth_ c_ A_ Q_ ls B0 ret
  obtain ⟨CF, hA, hKN, hP, hD, hl⟩ := B0
  have hK := hKN.1
  obtain ⟨hx, hb, hml, hown, hts⟩ := id CF
  have hS : va_S A_ s_.heap s_.heap [] := va_S.rf
  have hl : lv_has ls 1 [(0, .ref g)] := hl
  refine lv_bipush (v := nI 111) hx hb dX5_letter_0 (by decide) ?_
  exact ret _ () _ _ _ _ dX5_letter_2 rfl rfl hP hD hS
set_option maxHeartbeats 4000000 in
set_option maxRecDepth 100000 in
theorem k_X10_number (l : Launch) (D : va_G) (cy : Nat → ClassId) (sz : Nat) (g : Nat)  : Met l yX10_number wsX10_number (rmD 0) (pPre D (TY cy) ([]) sz [.ref g]) (pI D (TY cy) ([]) sz (fun _ : Unit => []) (fun (r_ : Int32) (_ : Unit) => r_ = nI 3)) 0 0 (va_A ([]) sz) := by
  refine ent_i (cc := cX10_number) (maxL := 1) (by decide +kernel) rfl (Nat.le_of_ble_eq_true rfl) ?_
  intro p_ e_ s_ m_ args_ below_ meth_ c_ A_ Q_ ls B0 ret
  obtain ⟨CF, hA, hKN, hP, hD, hl⟩ := B0
  have hK := hKN.1
  obtain ⟨hx, hb, hml, hown, hts⟩ := id CF
  have hS : va_S A_ s_.heap s_.heap [] := va_S.rf
  have hl : lv_has ls 1 [(0, .ref g)] := hl
  refine lv_iconst (v := nI 3) hx hb dX10_number_0 (by decide) ?_
  exact ret _ () _ _ _ _ dX10_number_1 rfl hP hD hS
set_option maxHeartbeats 4000000 in
set_option maxRecDepth 100000 in
theorem k_X10_letter (l : Launch) (D : va_G) (cy : Nat → ClassId) (sz : Nat) (g : Nat)  : Met l yX10_letter wsX10_letter (rmD 0) (pPre D (TY cy) ([]) sz [.ref g]) (pI D (TY cy) ([]) sz (fun _ : Unit => []) (fun (r_ : Int32) (_ : Unit) => r_ = nI 119)) 0 0 (va_A ([]) sz) := by
  refine ent_z (cc := cX10_letter) (maxL := 1) (by decide +kernel) rfl (Nat.le_of_ble_eq_true rfl) ?_
  intro p_ e_ s_ m_ args_ below_ meth_ c_ A_ Q_ ls B0 ret
  obtain ⟨CF, hA, hKN, hP, hD, hl⟩ := B0
  have hK := hKN.1
  obtain ⟨hx, hb, hml, hown, hts⟩ := id CF
  have hS : va_S A_ s_.heap s_.heap [] := va_S.rf
  have hl : lv_has ls 1 [(0, .ref g)] := hl
  refine lv_bipush (v := nI 119) hx hb dX10_letter_0 (by decide) ?_
  exact ret _ () _ _ _ _ dX10_letter_2 rfl rfl hP hD hS
set_option maxHeartbeats 4000000 in
set_option maxRecDepth 100000 in
theorem k_X7_number (l : Launch) (D : va_G) (cy : Nat → ClassId) (sz : Nat) (g : Nat)  : Met l yX7_number wsX7_number (rmD 0) (pPre D (TY cy) ([]) sz [.ref g]) (pI D (TY cy) ([]) sz (fun _ : Unit => []) (fun (r_ : Int32) (_ : Unit) => r_ = nI 4)) 0 0 (va_A ([]) sz) := by
  refine ent_i (cc := cX7_number) (maxL := 1) (by decide +kernel) rfl (Nat.le_of_ble_eq_true rfl) ?_
  intro p_ e_ s_ m_ args_ below_ meth_ c_ A_ Q_ ls B0 ret
  obtain ⟨CF, hA, hKN, hP, hD, hl⟩ := B0
  have hK := hKN.1
  obtain ⟨hx, hb, hml, hown, hts⟩ := id CF
  have hS : va_S A_ s_.heap s_.heap [] := va_S.rf
  have hl : lv_has ls 1 [(0, .ref g)] := hl
  refine lv_iconst (v := nI 4) hx hb dX7_number_0 (by decide) ?_
  exact ret _ () _ _ _ _ dX7_number_1 rfl hP hD hS
set_option maxHeartbeats 4000000 in
set_option maxRecDepth 100000 in
theorem k_X7_letter (l : Launch) (D : va_G) (cy : Nat → ClassId) (sz : Nat) (g : Nat)  : Met l yX7_letter wsX7_letter (rmD 0) (pPre D (TY cy) ([]) sz [.ref g]) (pI D (TY cy) ([]) sz (fun _ : Unit => []) (fun (r_ : Int32) (_ : Unit) => r_ = nI 114)) 0 0 (va_A ([]) sz) := by
  refine ent_z (cc := cX7_letter) (maxL := 1) (by decide +kernel) rfl (Nat.le_of_ble_eq_true rfl) ?_
  intro p_ e_ s_ m_ args_ below_ meth_ c_ A_ Q_ ls B0 ret
  obtain ⟨CF, hA, hKN, hP, hD, hl⟩ := B0
  have hK := hKN.1
  obtain ⟨hx, hb, hml, hown, hts⟩ := id CF
  have hS : va_S A_ s_.heap s_.heap [] := va_S.rf
  have hl : lv_has ls 1 [(0, .ref g)] := hl
  refine lv_bipush (v := nI 114) hx hb dX7_letter_0 (by decide) ?_
  exact ret _ () _ _ _ _ dX7_letter_2 rfl rfl hP hD hS
set_option maxHeartbeats 4000000 in
set_option maxRecDepth 100000 in
theorem k_X1_number (l : Launch) (D : va_G) (cy : Nat → ClassId) (sz : Nat) (g : Nat)  : Met l yX1_number wsX1_number (rmD 0) (pPre D (TY cy) ([]) sz [.ref g]) (pI D (TY cy) ([]) sz (fun _ : Unit => []) (fun (r_ : Int32) (_ : Unit) => r_ = nI 5)) 0 0 (va_A ([]) sz) := by
  refine ent_i (cc := cX1_number) (maxL := 1) (by decide +kernel) rfl (Nat.le_of_ble_eq_true rfl) ?_
  intro p_ e_ s_ m_ args_ below_ meth_ c_ A_ Q_ ls B0 ret
  obtain ⟨CF, hA, hKN, hP, hD, hl⟩ := B0
  have hK := hKN.1
  obtain ⟨hx, hb, hml, hown, hts⟩ := id CF
  have hS : va_S A_ s_.heap s_.heap [] := va_S.rf
  have hl : lv_has ls 1 [(0, .ref g)] := hl
  refine lv_iconst (v := nI 5) hx hb dX1_number_0 (by decide) ?_
  exact ret _ () _ _ _ _ dX1_number_1 rfl hP hD hS
set_option maxHeartbeats 4000000 in
set_option maxRecDepth 100000 in
theorem k_X1_letter (l : Launch) (D : va_G) (cy : Nat → ClassId) (sz : Nat) (g : Nat)  : Met l yX1_letter wsX1_letter (rmD 0) (pPre D (TY cy) ([]) sz [.ref g]) (pI D (TY cy) ([]) sz (fun _ : Unit => []) (fun (r_ : Int32) (_ : Unit) => r_ = nI 98)) 0 0 (va_A ([]) sz) := by
  refine ent_z (cc := cX1_letter) (maxL := 1) (by decide +kernel) rfl (Nat.le_of_ble_eq_true rfl) ?_
  intro p_ e_ s_ m_ args_ below_ meth_ c_ A_ Q_ ls B0 ret
  obtain ⟨CF, hA, hKN, hP, hD, hl⟩ := B0
  have hK := hKN.1
  obtain ⟨hx, hb, hml, hown, hts⟩ := id CF
  have hS : va_S A_ s_.heap s_.heap [] := va_S.rf
  have hl : lv_has ls 1 [(0, .ref g)] := hl
  refine lv_bipush (v := nI 98) hx hb dX1_letter_0 (by decide) ?_
  exact ret _ () _ _ _ _ dX1_letter_2 rfl rfl hP hD hS
set_option maxHeartbeats 4000000 in
set_option maxRecDepth 100000 in
theorem k_X4_stirs (l : Launch) (D : va_G) (cy : Nat → ClassId) (sz : Nat) (g : Nat) (x : Int32)  : Met l yX4_stirs wsX4_stirs (rmD 0) (pPre D (TY cy) ([]) sz [.ref g, .int x]) (pI D (TY cy) ([]) sz (fun _ : Unit => []) (fun (r_ : Int32) (_ : Unit) => r_ = nI 1)) 0 0 (va_A ([]) sz) := by
  refine ent_z (cc := cX4_stirs) (maxL := 2) (by decide +kernel) rfl (Nat.le_of_ble_eq_true rfl) ?_
  intro p_ e_ s_ m_ args_ below_ meth_ c_ A_ Q_ ls B0 ret
  obtain ⟨CF, hA, hKN, hP, hD, hl⟩ := B0
  have hK := hKN.1
  obtain ⟨hx, hb, hml, hown, hts⟩ := id CF
  have hS : va_S A_ s_.heap s_.heap [] := va_S.rf
  have hl : lv_has ls 2 [(0, .ref g), (1, .int x)] := hl
  refine lv_iconst (v := nI 1) hx hb dX4_stirs_0 (by decide) ?_
  exact ret _ () _ _ _ _ dX4_stirs_1 rfl rfl hP hD hS
set_option maxHeartbeats 4000000 in
set_option maxRecDepth 100000 in
theorem k_X5_stirs (l : Launch) (D : va_G) (cy : Nat → ClassId) (sz : Nat) (g : Nat) (x : Int32)  : Met l yX5_stirs wsX5_stirs (rmD 0) (pPre D (TY cy) ([]) sz [.ref g, .int x]) (pI D (TY cy) ([]) sz (fun _ : Unit => []) (fun (r_ : Int32) (_ : Unit) => r_ = bI (x - x / nI 2 * nI 2 = 0))) 0 0 (va_A ([]) sz) := by
  refine ent_z (cc := cX5_stirs) (maxL := 2) (by decide +kernel) rfl (Nat.le_of_ble_eq_true rfl) ?_
  intro p_ e_ s_ m_ args_ below_ meth_ c_ A_ Q_ ls B0 ret
  obtain ⟨CF, hA, hKN, hP, hD, hl⟩ := B0
  have hK := hKN.1
  obtain ⟨hx, hb, hml, hown, hts⟩ := id CF
  have hS : va_S A_ s_.heap s_.heap [] := va_S.rf
  have hl : lv_has ls 2 [(0, .ref g), (1, .int x)] := hl
  refine lv_iload_n hx hb dX5_stirs_0 rfl (lv_at hl 1 rfl) ?_
  refine lv_iconst (v := nI 2) hx hb dX5_stirs_1 (by decide) ?_
  refine lv_irem hx hb dX5_stirs_2 (by decide) ?_
  refine lv_if_ne (tgt := 10) hx hb dX5_stirs_3 (by decide) (fun c3 => ?_) (fun c3 => ?_)
  · refine lv_iconst (v := nI 0) hx hb dX5_stirs_10 (by decide) ?_
    exact ret _ () _ _ _ _ dX5_stirs_11 rfl (by first | (rw [bI_t c3]; rfl) | (rw [bI_f c3]; rfl)) hP hD hS
  · refine lv_iconst (v := nI 1) hx hb dX5_stirs_6 (by decide) ?_
    refine lv_goto (tgt := 11) hx hb dX5_stirs_7 (by decide) ?_
    exact ret _ () _ _ _ _ dX5_stirs_11 rfl (by first | (rw [bI_t c3]; rfl) | (rw [bI_f c3]; rfl)) hP hD hS
set_option maxHeartbeats 4000000 in
set_option maxRecDepth 100000 in
theorem k_X3_goOver (l : Launch) (D : va_G) (cy : Nat → ClassId) (sz : Nat) (g : Nat) (a : Nat) (b : Nat → Nat) (S : Nat → Option Nat) (t : Nat → Int32) (c : Nat) (k : Nat) (n : Nat) (hn : n ≤ 8) (h3 : t 3 = nI n) (hc : c < n) (hk : k < n) : Met l yX3_goOver wsX3_goOver (rmD 2) (pPre D (TY cy) ([(a, .inr (8, [.ref (b 0), .ref (b 1), .ref (b 2), .ref (b 3), .int (t 1), .int (t 2), .int (t 3), .int (t 0)])), ((b 0), wRef (cy 2) 8 S), ((b 1), wInt (cy 0) 8 (fun j => t (13 + j))), ((b 2), wInt (cy 0) 8 (fun j => t (21 + j))), ((b 3), wInt (cy 0) 8 (fun j => t (29 + j)))]) sz [.ref g, .ref a, .int (nI c), .int (nI k)]) (pV D (TY cy) ([(a, .inr (8, [.ref (b 0), .ref (b 1), .ref (b 2), .ref (b 3), .int (t 1), .int (t 2), .int (t 3), .int (t 0)])), ((b 0), wRef (cy 2) 8 S), ((b 1), wInt (cy 0) 8 (fun j => t (13 + j))), ((b 2), wInt (cy 0) 8 (fun j => t (21 + j))), ((b 3), wInt (cy 0) 8 (fun j => t (29 + j)))]) sz (fun t2 : Nat → Int32 => [(a, .inr (8, [.ref (b 0), .ref (b 1), .ref (b 2), .ref (b 3), .int (t2 1), .int (t2 2), .int (t2 3), .int (t2 0)])), ((b 0), wRef (cy 2) 8 S), ((b 1), wInt (cy 0) 8 (fun j => t2 (13 + j))), ((b 2), wInt (cy 0) 8 (fun j => t2 (21 + j))), ((b 3), wInt (cy 0) 8 (fun j => t2 (29 + j)))]) (fun (u : (Nat → Int32)) => u = goF t n c k)) 0 0 (va_A ([(a, .inr (8, [.ref (b 0), .ref (b 1), .ref (b 2), .ref (b 3), .int (t 1), .int (t 2), .int (t 3), .int (t 0)])), ((b 0), wRef (cy 2) 8 S), ((b 1), wInt (cy 0) 8 (fun j => t (13 + j))), ((b 2), wInt (cy 0) 8 (fun j => t (21 + j))), ((b 3), wInt (cy 0) 8 (fun j => t (29 + j)))]) sz) := by
  refine ent_v (cc := cX3_goOver) (maxL := 6) (by decide +kernel) rfl (Nat.le_of_ble_eq_true rfl) ?_
  intro p_ e_ s_ m_ args_ below_ meth_ c_ A_ Q_ ls B0 ret
  obtain ⟨CF, hA, hKN, hP, hD, hl⟩ := B0
  have hK := hKN.1
  obtain ⟨hx, hb, hml, hown, hts⟩ := id CF
  have hS : va_S A_ s_.heap s_.heap [] := va_S.rf
  have hl : lv_has ls 6 [(0, .ref g), (1, .ref a), (2, .int (nI c)), (3, .int (nI k))] := hl
  have hf16 := va_Nw.use (A := args_) (w := .fieldLinkNest "DrawerCards$Free" 16 "DrawerCards$Shelf" "in" "[I" "DrawerCards") rfl (hKN.2.1 _ (by decide +kernel))
  have hinX9 := show ∀ w ∈ u_ws RX9 TX9 8, w ∈ wsX3_goOver from by decide +kernel
  have hc15 := hts (.constant RX3 15 (-1000000)) (by decide +kernel)
  refine lv_aload_n hx hb dX3_goOver_0 rfl (lv_at hl 1 rfl) ?_
  refine va_getN (ci := 8) (v := .ref (b 2)) (C := RX9) (T := TX9) (N := 8) hx hb hts hinX9 hown hK hP 0 rfl rfl 2 (by decide) hf16 (fun _ h9 => h9) rfl dX3_goOver_1 ?_
  refine lv_iload_n hx hb dX3_goOver_4 rfl (lv_at hl 2 rfl) ?_
  refine ldN (f := fun j => t (21 + j)) hx hb hK hP 3 rfl (j := c) (by omega) (by decide) dX3_goOver_5 ?_
  refine top_i (y := (t (21 + c))) rfl ?_
  refine lv_istore (lv' := [(4, .int (t (21 + c))), (0, .ref g), (1, .ref a), (2, .int (nI c)), (3, .int (nI k))]) hx hb dX3_goOver_6 hl (by decide) rfl (fun ls hl => ?_)
  refine lv_aload_n hx hb dX3_goOver_8 rfl (lv_at hl 2 rfl) ?_
  refine va_getN (ci := 8) (v := .ref (b 2)) (C := RX9) (T := TX9) (N := 8) hx hb hts hinX9 hown hK hP 0 rfl rfl 2 (by decide) hf16 (fun _ h9 => h9) rfl dX3_goOver_9 ?_
  refine lv_iload_n hx hb dX3_goOver_12 rfl (lv_at hl 4 rfl) ?_
  refine ldN (f := fun j => t (21 + j)) hx hb hK hP 3 rfl (j := k) (by omega) (by decide) dX3_goOver_13 ?_
  refine top_i (y := (t (21 + k))) rfl ?_
  refine lv_iload hx hb dX3_goOver_14 (lv_at hl 0 rfl) ?_
  refine lv_icmp_le (tgt := 26) hx hb dX3_goOver_16 (by decide) (fun c16 => ?_) (fun c16 => ?_)
  · refine lv_iload hx hb dX3_goOver_26 (lv_at hl 0 rfl) ?_
    refine lv_iconst (v := nI 1) hx hb dX3_goOver_28 (by decide) ?_
    refine lv_isub hx hb dX3_goOver_29 ?_
    refine lv_istore (lv' := [(5, .int (t (21 + c) - nI 1)), (4, .int (t (21 + c))), (0, .ref g), (1, .ref a), (2, .int (nI c)), (3, .int (nI k))]) hx hb dX3_goOver_30 hl (by decide) rfl (fun ls hl => ?_)
    refine lv_aload_n hx hb dX3_goOver_32 rfl (lv_at hl 3 rfl) ?_
    refine lv_iload hx hb dX3_goOver_33 (lv_at hl 0 rfl) ?_
    refine call_i (wr := []) (ws' := (fun _ : Unit => [(a, .inr (8, [.ref (b 0), .ref (b 1), .ref (b 2), .ref (b 3), .int (t 1), .int (t 2), .int (t 3), .int (t 0)])), ((b 0), wRef (cy 2) 8 S), ((b 1), wInt (cy 0) 8 (fun j => t (13 + j))), ((b 2), wInt (cy 0) 8 (fun j => t (21 + j))), ((b 3), wInt (cy 0) 8 (fun j => t (29 + j)))])) (va_runV (As := [.int (t (21 + c) - nI 1)]) (rest := []) CF (k_X9_holdsOneMore l D cy _ a b S t (t (21 + c) - nI 1) n (by first | assumption | omega | decide) (by first | assumption | omega | decide)) (cwV 1 hts gX3_goOver_X9_holdsOneMore rfl rfl rfl (by decide +kernel) ⟨Nat.le_of_ble_eq_true rfl, Nat.le_of_ble_eq_true rfl⟩) (pre_V hKN hP hD [0, 1, 2, 3, 4] rfl (by decide) 0 8 rfl rfl) rfl rfl hl.1 rfl (lv_room (Nat.le_of_ble_eq_true rfl)) dX3_goOver_35 ⟨Nat.le_of_ble_eq_true rfl, Nat.le_of_ble_eq_true rfl⟩) hS hA hP hD [0, 1, 2, 3, 4] [] [0, 1, 2, 3, 4] rfl rfl (by decide) (by decide) (fun _ => rfl) (by decide) (fun r2 u1 H locs hw3 hP hD hS => ?_)
    replace hw3 := hw3.symm; subst hw3
    refine ifeqB (tgt := 50) hx hb dX3_goOver_38 (by decide) (fun c38 => ?_) (fun c38 => ?_)
    · replace c38 : ¬ (¬ t 2 ≤ fillN t (t (21 + c) - nI 1) n) := c38
      exact ret t _ _ _ _ dX3_goOver_50 (by rw [goF, besideS]; first | (rw [if_pos c16]; first | (rw [if_pos (Decidable.not_not.mp c38)]; done) | (rw [if_neg c38]; done)) | (rw [if_neg c16]; first | (rw [if_pos (Decidable.not_not.mp c38)]; done) | (rw [if_neg c38]; done))) hP hD hS
    · replace c38 : (¬ t 2 ≤ fillN t (t (21 + c) - nI 1) n) := c38
      refine lv_aload_n hx hb dX3_goOver_41 rfl (lv_at hl 3 rfl) ?_
      refine lv_iload_n hx hb dX3_goOver_42 rfl (lv_at hl 4 rfl) ?_
      refine lv_iload hx hb dX3_goOver_43 (lv_at hl 0 rfl) ?_
      refine lv_ldc hx hb hown hc15 dX3_goOver_45 ?_
      refine call_v (wr := []) (ws' := (fun u4 : (Nat → Int32) => [(a, .inr (8, [.ref (b 0), .ref (b 1), .ref (b 2), .ref (b 3), .int (u4 1), .int (u4 2), .int (u4 3), .int (u4 0)])), ((b 0), wRef (cy 2) 8 S), ((b 1), wInt (cy 0) 8 (fun j => u4 (13 + j))), ((b 2), wInt (cy 0) 8 (fun j => u4 (21 + j))), ((b 3), wInt (cy 0) 8 (fun j => u4 (29 + j)))])) (va_runV (As := [.int (nI c), .int (t (21 + c) - nI 1), .int (-1000000)]) (rest := []) CF (k_X9_stand l D cy _ a b S t c (t (21 + c) - nI 1) (-1000000) n (by first | assumption | omega | decide) (by first | assumption | omega | decide) (by first | assumption | omega | decide)) (cwV 3 hts gX3_goOver_X9_stand rfl rfl rfl (by decide +kernel) ⟨Nat.le_of_ble_eq_true rfl, Nat.le_of_ble_eq_true rfl⟩) (pre_V hKN hP hD [0, 1, 2, 3, 4] rfl (by decide) 0 8 rfl rfl) rfl rfl hl.1 rfl (lv_room (Nat.le_of_ble_eq_true rfl)) dX3_goOver_47 ⟨Nat.le_of_ble_eq_true rfl, Nat.le_of_ble_eq_true rfl⟩) hS hA hP hD [0, 1, 2, 3, 4] [] [0, 1, 2, 3, 4] rfl rfl (by decide) (by decide) (fun _ => rfl) (by decide) (fun u4 H locs hw6 hP hD hS => ?_)
      replace hw6 := hw6.symm; subst hw6
      have hP : va_P D vwCl ([(a, .inr (8, [.ref (b 0), .ref (b 1), .ref (b 2), .ref (b 3), .int ((stS t n c (t (21 + c) - nI 1) (-1000000)) 1), .int ((stS t n c (t (21 + c) - nI 1) (-1000000)) 2), .int ((stS t n c (t (21 + c) - nI 1) (-1000000)) 3), .int ((stS t n c (t (21 + c) - nI 1) (-1000000)) 0)])), ((b 0), wRef (cy 2) 8 S), ((b 1), wInt (cy 0) 8 (fun j => (stS t n c (t (21 + c) - nI 1) (-1000000)) (13 + j))), ((b 2), wInt (cy 0) 8 (fun j => (stS t n c (t (21 + c) - nI 1) (-1000000)) (21 + j))), ((b 3), wInt (cy 0) 8 (fun j => (stS t n c (t (21 + c) - nI 1) (-1000000)) (29 + j)))]) H := hP
      have hD : va_D A_ ([(a, .inr (8, [.ref (b 0), .ref (b 1), .ref (b 2), .ref (b 3), .int ((stS t n c (t (21 + c) - nI 1) (-1000000)) 1), .int ((stS t n c (t (21 + c) - nI 1) (-1000000)) 2), .int ((stS t n c (t (21 + c) - nI 1) (-1000000)) 3), .int ((stS t n c (t (21 + c) - nI 1) (-1000000)) 0)])), ((b 0), wRef (cy 2) 8 S), ((b 1), wInt (cy 0) 8 (fun j => (stS t n c (t (21 + c) - nI 1) (-1000000)) (13 + j))), ((b 2), wInt (cy 0) 8 (fun j => (stS t n c (t (21 + c) - nI 1) (-1000000)) (21 + j))), ((b 3), wInt (cy 0) 8 (fun j => (stS t n c (t (21 + c) - nI 1) (-1000000)) (29 + j)))]) := hD
      exact ret (stS t n c (t (21 + c) - nI 1) (-1000000)) _ _ _ _ dX3_goOver_50 (by rw [goF, besideS]; first | (rw [if_pos c16]; first | (rw [if_pos (Decidable.not_not.mp c38)]; done) | (rw [if_neg c38]; done)) | (rw [if_neg c16]; first | (rw [if_pos (Decidable.not_not.mp c38)]; done) | (rw [if_neg c38]; done))) hP hD hS
  · refine lv_iload hx hb dX3_goOver_19 (lv_at hl 0 rfl) ?_
    refine lv_iconst (v := nI 1) hx hb dX3_goOver_21 (by decide) ?_
    refine lv_iadd hx hb dX3_goOver_22 ?_
    refine lv_goto (tgt := 30) hx hb dX3_goOver_23 (by decide) ?_
    refine lv_istore (lv' := [(5, .int (t (21 + c) + nI 1)), (4, .int (t (21 + c))), (0, .ref g), (1, .ref a), (2, .int (nI c)), (3, .int (nI k))]) hx hb dX3_goOver_30 hl (by decide) rfl (fun ls hl => ?_)
    refine lv_aload_n hx hb dX3_goOver_32 rfl (lv_at hl 3 rfl) ?_
    refine lv_iload hx hb dX3_goOver_33 (lv_at hl 0 rfl) ?_
    refine call_i (wr := []) (ws' := (fun _ : Unit => [(a, .inr (8, [.ref (b 0), .ref (b 1), .ref (b 2), .ref (b 3), .int (t 1), .int (t 2), .int (t 3), .int (t 0)])), ((b 0), wRef (cy 2) 8 S), ((b 1), wInt (cy 0) 8 (fun j => t (13 + j))), ((b 2), wInt (cy 0) 8 (fun j => t (21 + j))), ((b 3), wInt (cy 0) 8 (fun j => t (29 + j)))])) (va_runV (As := [.int (t (21 + c) + nI 1)]) (rest := []) CF (k_X9_holdsOneMore l D cy _ a b S t (t (21 + c) + nI 1) n (by first | assumption | omega | decide) (by first | assumption | omega | decide)) (cwV 1 hts gX3_goOver_X9_holdsOneMore rfl rfl rfl (by decide +kernel) ⟨Nat.le_of_ble_eq_true rfl, Nat.le_of_ble_eq_true rfl⟩) (pre_V hKN hP hD [0, 1, 2, 3, 4] rfl (by decide) 0 8 rfl rfl) rfl rfl hl.1 rfl (lv_room (Nat.le_of_ble_eq_true rfl)) dX3_goOver_35 ⟨Nat.le_of_ble_eq_true rfl, Nat.le_of_ble_eq_true rfl⟩) hS hA hP hD [0, 1, 2, 3, 4] [] [0, 1, 2, 3, 4] rfl rfl (by decide) (by decide) (fun _ => rfl) (by decide) (fun r8 u7 H locs hw9 hP hD hS => ?_)
    replace hw9 := hw9.symm; subst hw9
    refine ifeqB (tgt := 50) hx hb dX3_goOver_38 (by decide) (fun c38 => ?_) (fun c38 => ?_)
    · replace c38 : ¬ (¬ t 2 ≤ fillN t (t (21 + c) + nI 1) n) := c38
      exact ret t _ _ _ _ dX3_goOver_50 (by rw [goF, besideS]; first | (rw [if_pos c16]; first | (rw [if_pos (Decidable.not_not.mp c38)]; done) | (rw [if_neg c38]; done)) | (rw [if_neg c16]; first | (rw [if_pos (Decidable.not_not.mp c38)]; done) | (rw [if_neg c38]; done))) hP hD hS
    · replace c38 : (¬ t 2 ≤ fillN t (t (21 + c) + nI 1) n) := c38
      refine lv_aload_n hx hb dX3_goOver_41 rfl (lv_at hl 3 rfl) ?_
      refine lv_iload_n hx hb dX3_goOver_42 rfl (lv_at hl 4 rfl) ?_
      refine lv_iload hx hb dX3_goOver_43 (lv_at hl 0 rfl) ?_
      refine lv_ldc hx hb hown hc15 dX3_goOver_45 ?_
      refine call_v (wr := []) (ws' := (fun u10 : (Nat → Int32) => [(a, .inr (8, [.ref (b 0), .ref (b 1), .ref (b 2), .ref (b 3), .int (u10 1), .int (u10 2), .int (u10 3), .int (u10 0)])), ((b 0), wRef (cy 2) 8 S), ((b 1), wInt (cy 0) 8 (fun j => u10 (13 + j))), ((b 2), wInt (cy 0) 8 (fun j => u10 (21 + j))), ((b 3), wInt (cy 0) 8 (fun j => u10 (29 + j)))])) (va_runV (As := [.int (nI c), .int (t (21 + c) + nI 1), .int (-1000000)]) (rest := []) CF (k_X9_stand l D cy _ a b S t c (t (21 + c) + nI 1) (-1000000) n (by first | assumption | omega | decide) (by first | assumption | omega | decide) (by first | assumption | omega | decide)) (cwV 3 hts gX3_goOver_X9_stand rfl rfl rfl (by decide +kernel) ⟨Nat.le_of_ble_eq_true rfl, Nat.le_of_ble_eq_true rfl⟩) (pre_V hKN hP hD [0, 1, 2, 3, 4] rfl (by decide) 0 8 rfl rfl) rfl rfl hl.1 rfl (lv_room (Nat.le_of_ble_eq_true rfl)) dX3_goOver_47 ⟨Nat.le_of_ble_eq_true rfl, Nat.le_of_ble_eq_true rfl⟩) hS hA hP hD [0, 1, 2, 3, 4] [] [0, 1, 2, 3, 4] rfl rfl (by decide) (by decide) (fun _ => rfl) (by decide) (fun u10 H locs hw12 hP hD hS => ?_)
      replace hw12 := hw12.symm; subst hw12
      have hP : va_P D vwCl ([(a, .inr (8, [.ref (b 0), .ref (b 1), .ref (b 2), .ref (b 3), .int ((stS t n c (t (21 + c) + nI 1) (-1000000)) 1), .int ((stS t n c (t (21 + c) + nI 1) (-1000000)) 2), .int ((stS t n c (t (21 + c) + nI 1) (-1000000)) 3), .int ((stS t n c (t (21 + c) + nI 1) (-1000000)) 0)])), ((b 0), wRef (cy 2) 8 S), ((b 1), wInt (cy 0) 8 (fun j => (stS t n c (t (21 + c) + nI 1) (-1000000)) (13 + j))), ((b 2), wInt (cy 0) 8 (fun j => (stS t n c (t (21 + c) + nI 1) (-1000000)) (21 + j))), ((b 3), wInt (cy 0) 8 (fun j => (stS t n c (t (21 + c) + nI 1) (-1000000)) (29 + j)))]) H := hP
      have hD : va_D A_ ([(a, .inr (8, [.ref (b 0), .ref (b 1), .ref (b 2), .ref (b 3), .int ((stS t n c (t (21 + c) + nI 1) (-1000000)) 1), .int ((stS t n c (t (21 + c) + nI 1) (-1000000)) 2), .int ((stS t n c (t (21 + c) + nI 1) (-1000000)) 3), .int ((stS t n c (t (21 + c) + nI 1) (-1000000)) 0)])), ((b 0), wRef (cy 2) 8 S), ((b 1), wInt (cy 0) 8 (fun j => (stS t n c (t (21 + c) + nI 1) (-1000000)) (13 + j))), ((b 2), wInt (cy 0) 8 (fun j => (stS t n c (t (21 + c) + nI 1) (-1000000)) (21 + j))), ((b 3), wInt (cy 0) 8 (fun j => (stS t n c (t (21 + c) + nI 1) (-1000000)) (29 + j)))]) := hD
      exact ret (stS t n c (t (21 + c) + nI 1) (-1000000)) _ _ _ _ dX3_goOver_50 (by rw [goF, besideS]; first | (rw [if_pos c16]; first | (rw [if_pos (Decidable.not_not.mp c38)]; done) | (rw [if_neg c38]; done)) | (rw [if_neg c16]; first | (rw [if_pos (Decidable.not_not.mp c38)]; done) | (rw [if_neg c38]; done))) hP hD hS
set_option maxHeartbeats 4000000 in
set_option maxRecDepth 100000 in
theorem k_X10_goOver (l : Launch) (D : va_G) (cy : Nat → ClassId) (sz : Nat) (g : Nat) (a : Nat) (b : Nat → Nat) (S : Nat → Option Nat) (t : Nat → Int32) (c : Nat) (k : Nat) (n : Nat) (hn : n ≤ 8) (h3 : t 3 = nI n) (hc : c < n) (hk : k < n) : Met l yX10_goOver wsX10_goOver (rmD 2) (pPre D (TY cy) ([(a, .inr (8, [.ref (b 0), .ref (b 1), .ref (b 2), .ref (b 3), .int (t 1), .int (t 2), .int (t 3), .int (t 0)])), ((b 0), wRef (cy 2) 8 S), ((b 1), wInt (cy 0) 8 (fun j => t (13 + j))), ((b 2), wInt (cy 0) 8 (fun j => t (21 + j))), ((b 3), wInt (cy 0) 8 (fun j => t (29 + j)))]) sz [.ref g, .ref a, .int (nI c), .int (nI k)]) (pV D (TY cy) ([(a, .inr (8, [.ref (b 0), .ref (b 1), .ref (b 2), .ref (b 3), .int (t 1), .int (t 2), .int (t 3), .int (t 0)])), ((b 0), wRef (cy 2) 8 S), ((b 1), wInt (cy 0) 8 (fun j => t (13 + j))), ((b 2), wInt (cy 0) 8 (fun j => t (21 + j))), ((b 3), wInt (cy 0) 8 (fun j => t (29 + j)))]) sz (fun t2 : Nat → Int32 => [(a, .inr (8, [.ref (b 0), .ref (b 1), .ref (b 2), .ref (b 3), .int (t2 1), .int (t2 2), .int (t2 3), .int (t2 0)])), ((b 0), wRef (cy 2) 8 S), ((b 1), wInt (cy 0) 8 (fun j => t2 (13 + j))), ((b 2), wInt (cy 0) 8 (fun j => t2 (21 + j))), ((b 3), wInt (cy 0) 8 (fun j => t2 (29 + j)))]) (fun (u : (Nat → Int32)) => u = goW t n c k)) 0 0 (va_A ([(a, .inr (8, [.ref (b 0), .ref (b 1), .ref (b 2), .ref (b 3), .int (t 1), .int (t 2), .int (t 3), .int (t 0)])), ((b 0), wRef (cy 2) 8 S), ((b 1), wInt (cy 0) 8 (fun j => t (13 + j))), ((b 2), wInt (cy 0) 8 (fun j => t (21 + j))), ((b 3), wInt (cy 0) 8 (fun j => t (29 + j)))]) sz) := by
  refine ent_v (cc := cX10_goOver) (maxL := 5) (by decide +kernel) rfl (Nat.le_of_ble_eq_true rfl) ?_
  intro p_ e_ s_ m_ args_ below_ meth_ c_ A_ Q_ ls B0 ret
  obtain ⟨CF, hA, hKN, hP, hD, hl⟩ := B0
  have hK := hKN.1
  obtain ⟨hx, hb, hml, hown, hts⟩ := id CF
  have hS : va_S A_ s_.heap s_.heap [] := va_S.rf
  have hl : lv_has ls 5 [(0, .ref g), (1, .ref a), (2, .int (nI c)), (3, .int (nI k))] := hl
  have hf7 := va_Nw.use (A := args_) (w := .fieldLinkNest "DrawerCards$Wild" 7 "DrawerCards$Shelf" "in" "[I" "DrawerCards") rfl (hKN.2.1 _ (by decide +kernel))
  have hinX9 := show ∀ w ∈ u_ws RX9 TX9 8, w ∈ wsX10_goOver from by decide +kernel
  refine lv_aload_n hx hb dX10_goOver_0 rfl (lv_at hl 1 rfl) ?_
  refine va_getN (ci := 8) (v := .ref (b 2)) (C := RX9) (T := TX9) (N := 8) hx hb hts hinX9 hown hK hP 0 rfl rfl 2 (by decide) hf7 (fun _ h9 => h9) rfl dX10_goOver_1 ?_
  refine lv_iload_n hx hb dX10_goOver_4 rfl (lv_at hl 3 rfl) ?_
  refine ldN (f := fun j => t (21 + j)) hx hb hK hP 3 rfl (j := k) (by omega) (by decide) dX10_goOver_5 ?_
  refine top_i (y := (t (21 + k))) rfl ?_
  refine lv_istore (lv' := [(4, .int (t (21 + k))), (0, .ref g), (1, .ref a), (2, .int (nI c)), (3, .int (nI k))]) hx hb dX10_goOver_6 hl (by decide) rfl (fun ls hl => ?_)
  refine lv_aload_n hx hb dX10_goOver_8 rfl (lv_at hl 2 rfl) ?_
  refine lv_iload hx hb dX10_goOver_9 (lv_at hl 0 rfl) ?_
  refine call_i (wr := []) (ws' := (fun _ : Unit => [(a, .inr (8, [.ref (b 0), .ref (b 1), .ref (b 2), .ref (b 3), .int (t 1), .int (t 2), .int (t 3), .int (t 0)])), ((b 0), wRef (cy 2) 8 S), ((b 1), wInt (cy 0) 8 (fun j => t (13 + j))), ((b 2), wInt (cy 0) 8 (fun j => t (21 + j))), ((b 3), wInt (cy 0) 8 (fun j => t (29 + j)))])) (va_runV (As := [.int (t (21 + k))]) (rest := []) CF (k_X9_holdsOneMore l D cy _ a b S t (t (21 + k)) n (by first | assumption | omega | decide) (by first | assumption | omega | decide)) (cwV 1 hts gX10_goOver_X9_holdsOneMore rfl rfl rfl (by decide +kernel) ⟨Nat.le_of_ble_eq_true rfl, Nat.le_of_ble_eq_true rfl⟩) (pre_V hKN hP hD [0, 1, 2, 3, 4] rfl (by decide) 0 8 rfl rfl) rfl rfl hl.1 rfl (lv_room (Nat.le_of_ble_eq_true rfl)) dX10_goOver_11 ⟨Nat.le_of_ble_eq_true rfl, Nat.le_of_ble_eq_true rfl⟩) hS hA hP hD [0, 1, 2, 3, 4] [] [0, 1, 2, 3, 4] rfl rfl (by decide) (by decide) (fun _ => rfl) (by decide) (fun r2 u1 H locs hw3 hP hD hS => ?_)
  replace hw3 := hw3.symm; subst hw3
  refine ifeqB (tgt := 25) hx hb dX10_goOver_14 (by decide) (fun c14 => ?_) (fun c14 => ?_)
  · replace c14 : ¬ (¬ t 2 ≤ fillN t (t (21 + k)) n) := c14
    exact ret t _ _ _ _ dX10_goOver_25 (by rw [goW]; first | (rw [if_pos (Decidable.not_not.mp c14)]; done) | (rw [if_neg c14]; done)) hP hD hS
  · replace c14 : (¬ t 2 ≤ fillN t (t (21 + k)) n) := c14
    refine lv_aload_n hx hb dX10_goOver_17 rfl (lv_at hl 2 rfl) ?_
    refine lv_iload_n hx hb dX10_goOver_18 rfl (lv_at hl 3 rfl) ?_
    refine lv_iload hx hb dX10_goOver_19 (lv_at hl 0 rfl) ?_
    refine lv_iload_n hx hb dX10_goOver_21 rfl (lv_at hl 4 rfl) ?_
    refine call_v (wr := []) (ws' := (fun u4 : (Nat → Int32) => [(a, .inr (8, [.ref (b 0), .ref (b 1), .ref (b 2), .ref (b 3), .int (u4 1), .int (u4 2), .int (u4 3), .int (u4 0)])), ((b 0), wRef (cy 2) 8 S), ((b 1), wInt (cy 0) 8 (fun j => u4 (13 + j))), ((b 2), wInt (cy 0) 8 (fun j => u4 (21 + j))), ((b 3), wInt (cy 0) 8 (fun j => u4 (29 + j)))])) (va_runV (As := [.int (nI c), .int (t (21 + k)), .int (nI k)]) (rest := []) CF (k_X9_stand l D cy _ a b S t c (t (21 + k)) (nI k) n (by first | assumption | omega | decide) (by first | assumption | omega | decide) (by first | assumption | omega | decide)) (cwV 3 hts gX10_goOver_X9_stand rfl rfl rfl (by decide +kernel) ⟨Nat.le_of_ble_eq_true rfl, Nat.le_of_ble_eq_true rfl⟩) (pre_V hKN hP hD [0, 1, 2, 3, 4] rfl (by decide) 0 8 rfl rfl) rfl rfl hl.1 rfl (lv_room (Nat.le_of_ble_eq_true rfl)) dX10_goOver_22 ⟨Nat.le_of_ble_eq_true rfl, Nat.le_of_ble_eq_true rfl⟩) hS hA hP hD [0, 1, 2, 3, 4] [] [0, 1, 2, 3, 4] rfl rfl (by decide) (by decide) (fun _ => rfl) (by decide) (fun u4 H locs hw6 hP hD hS => ?_)
    replace hw6 := hw6.symm; subst hw6
    have hP : va_P D vwCl ([(a, .inr (8, [.ref (b 0), .ref (b 1), .ref (b 2), .ref (b 3), .int ((stS t n c (t (21 + k)) (nI k)) 1), .int ((stS t n c (t (21 + k)) (nI k)) 2), .int ((stS t n c (t (21 + k)) (nI k)) 3), .int ((stS t n c (t (21 + k)) (nI k)) 0)])), ((b 0), wRef (cy 2) 8 S), ((b 1), wInt (cy 0) 8 (fun j => (stS t n c (t (21 + k)) (nI k)) (13 + j))), ((b 2), wInt (cy 0) 8 (fun j => (stS t n c (t (21 + k)) (nI k)) (21 + j))), ((b 3), wInt (cy 0) 8 (fun j => (stS t n c (t (21 + k)) (nI k)) (29 + j)))]) H := hP
    have hD : va_D A_ ([(a, .inr (8, [.ref (b 0), .ref (b 1), .ref (b 2), .ref (b 3), .int ((stS t n c (t (21 + k)) (nI k)) 1), .int ((stS t n c (t (21 + k)) (nI k)) 2), .int ((stS t n c (t (21 + k)) (nI k)) 3), .int ((stS t n c (t (21 + k)) (nI k)) 0)])), ((b 0), wRef (cy 2) 8 S), ((b 1), wInt (cy 0) 8 (fun j => (stS t n c (t (21 + k)) (nI k)) (13 + j))), ((b 2), wInt (cy 0) 8 (fun j => (stS t n c (t (21 + k)) (nI k)) (21 + j))), ((b 3), wInt (cy 0) 8 (fun j => (stS t n c (t (21 + k)) (nI k)) (29 + j)))]) := hD
    exact ret (stS t n c (t (21 + k)) (nI k)) _ _ _ _ dX10_goOver_25 (by rw [goW]; first | (rw [if_pos (Decidable.not_not.mp c14)]; done) | (rw [if_neg c14]; done)) hP hD hS
set_option maxHeartbeats 4000000 in
set_option maxRecDepth 100000 in
theorem k_X3_wanderX3 (l : Launch) (D : va_G) (cy : Nat → ClassId) (sz : Nat) (g : Nat) (a : Nat) (b : Nat → Nat) (S : Nat → Option Nat) (t : Nat → Int32) (c : Nat) (n : Nat) (hn : n ≤ 8) (h3 : t 3 = nI n) (hc : c < n) : Met l yX3_wander wsX3_wander (rmD 3) (pPre D (TY cy) ([(g, .inr (3, [])), (a, .inr (8, [.ref (b 0), .ref (b 1), .ref (b 2), .ref (b 3), .int (t 1), .int (t 2), .int (t 3), .int (t 0)])), ((b 0), wRef (cy 2) 8 S), ((b 1), wInt (cy 0) 8 (fun j => t (13 + j))), ((b 2), wInt (cy 0) 8 (fun j => t (21 + j))), ((b 3), wInt (cy 0) 8 (fun j => t (29 + j)))]) sz [.ref g, .ref a, .int (nI c)]) (pV D (TY cy) ([(g, .inr (3, [])), (a, .inr (8, [.ref (b 0), .ref (b 1), .ref (b 2), .ref (b 3), .int (t 1), .int (t 2), .int (t 3), .int (t 0)])), ((b 0), wRef (cy 2) 8 S), ((b 1), wInt (cy 0) 8 (fun j => t (13 + j))), ((b 2), wInt (cy 0) 8 (fun j => t (21 + j))), ((b 3), wInt (cy 0) 8 (fun j => t (29 + j)))]) sz (fun t2 : Nat → Int32 => [(g, .inr (3, [])), (a, .inr (8, [.ref (b 0), .ref (b 1), .ref (b 2), .ref (b 3), .int (t2 1), .int (t2 2), .int (t2 3), .int (t2 0)])), ((b 0), wRef (cy 2) 8 S), ((b 1), wInt (cy 0) 8 (fun j => t2 (13 + j))), ((b 2), wInt (cy 0) 8 (fun j => t2 (21 + j))), ((b 3), wInt (cy 0) 8 (fun j => t2 (29 + j)))]) (fun (u : (Nat → Int32)) => u = wanF t n c)) 0 0 (va_A ([(g, .inr (3, [])), (a, .inr (8, [.ref (b 0), .ref (b 1), .ref (b 2), .ref (b 3), .int (t 1), .int (t 2), .int (t 3), .int (t 0)])), ((b 0), wRef (cy 2) 8 S), ((b 1), wInt (cy 0) 8 (fun j => t (13 + j))), ((b 2), wInt (cy 0) 8 (fun j => t (21 + j))), ((b 3), wInt (cy 0) 8 (fun j => t (29 + j)))]) sz) := by
  refine ent_v (cc := cX3_wander) (maxL := 5) (by decide +kernel) rfl (Nat.le_of_ble_eq_true rfl) ?_
  intro p_ e_ s_ m_ args_ below_ meth_ c_ A_ Q_ ls B0 ret
  obtain ⟨CF, hA, hKN, hP, hD, hl⟩ := B0
  have hK := hKN.1
  obtain ⟨hx, hb, hml, hown, hts⟩ := id CF
  have hS : va_S A_ s_.heap s_.heap [] := va_S.rf
  have hl : lv_has ls 5 [(0, .ref g), (1, .ref a), (2, .int (nI c))] := hl
  have hc15 := hts (.constant RX3 15 (-1000000)) (by decide +kernel)
  have hf16 := va_Nw.use (A := args_) (w := .fieldLinkNest "DrawerCards$Free" 16 "DrawerCards$Shelf" "in" "[I" "DrawerCards") rfl (hKN.2.1 _ (by decide +kernel))
  have hinX9 := show ∀ w ∈ u_ws RX9 TX9 8, w ∈ wsX3_wander from by decide +kernel
  refine lv_aload_n hx hb dX3_wander_0 rfl (lv_at hl 1 rfl) ?_
  refine lv_iload_n hx hb dX3_wander_1 rfl (lv_at hl 2 rfl) ?_
  refine call_i (wr := [(g, .inr (3, []))]) (ws' := (fun _ : Unit => [(g, .inr (3, [])), (a, .inr (8, [.ref (b 0), .ref (b 1), .ref (b 2), .ref (b 3), .int (t 1), .int (t 2), .int (t 3), .int (t 0)])), ((b 0), wRef (cy 2) 8 S), ((b 1), wInt (cy 0) 8 (fun j => t (13 + j))), ((b 2), wInt (cy 0) 8 (fun j => t (21 + j))), ((b 3), wInt (cy 0) 8 (fun j => t (29 + j)))])) (va_runV (As := [.int (nI c)]) (rest := []) CF (k_X9_dear l D cy _ a b S t c n (by first | assumption | omega | decide) (by first | assumption | omega | decide) (by first | assumption | omega | decide)) (cwV 1 hts gX3_wander_X9_dear rfl rfl rfl (by decide +kernel) ⟨Nat.le_of_ble_eq_true rfl, Nat.le_of_ble_eq_true rfl⟩) (pre_V hKN hP hD [1, 2, 3, 4, 5] rfl (by decide) 1 8 rfl rfl) rfl rfl hl.1 rfl (lv_room (Nat.le_of_ble_eq_true rfl)) dX3_wander_2 ⟨Nat.le_of_ble_eq_true rfl, Nat.le_of_ble_eq_true rfl⟩) hS hA hP hD [1, 2, 3, 4, 5] [0] [0, 1, 2, 3, 4, 5] rfl rfl (by decide) (by decide) (fun _ => rfl) (by decide) (fun r2 u1 H locs hw3 hP hD hS => ?_)
  replace hw3 := hw3.symm; subst hw3
  refine lv_istore_n (lv' := [(3, .int (drF t n c)), (0, .ref g), (1, .ref a), (2, .int (nI c))]) hx hb dX3_wander_5 rfl hl (by decide) rfl (fun ls hl => ?_)
  refine lv_iload_n hx hb dX3_wander_6 rfl (lv_at hl 0 rfl) ?_
  refine lv_ldc hx hb hown hc15 dX3_wander_7 ?_
  refine lv_icmp_ne (tgt := 13) hx hb dX3_wander_9 (by decide) (fun c9 => ?_) (fun c9 => ?_)
  · obtain ⟨k, hk, ek⟩ := drF_nat (by omega) c9
    have ekc : cl (drF t n c) = k := (by rw [ek]; exact nI_clamp (by omega))
    rw [ek] at hl
    refine lv_aload_n hx hb dX3_wander_13 rfl (lv_at hl 2 rfl) ?_
    refine va_getN (ci := 8) (v := .ref (b 2)) (C := RX9) (T := TX9) (N := 8) hx hb hts hinX9 hown hK hP 1 rfl rfl 2 (by decide) hf16 (fun _ h9 => h9) rfl dX3_wander_14 ?_
    refine lv_iload_n hx hb dX3_wander_17 rfl (lv_at hl 0 rfl) ?_
    refine ldN (f := fun j => t (21 + j)) hx hb hK hP 4 rfl (j := k) (by omega) (by decide) dX3_wander_18 ?_
    refine top_i (y := (t (21 + k))) rfl ?_
    refine lv_istore (lv' := [(4, .int (t (21 + k))), (3, .int (nI k)), (0, .ref g), (1, .ref a), (2, .int (nI c))]) hx hb dX3_wander_19 hl (by decide) rfl (fun ls hl => ?_)
    refine lv_iload hx hb dX3_wander_21 (lv_at hl 0 rfl) ?_
    refine lv_aload_n hx hb dX3_wander_23 rfl (lv_at hl 3 rfl) ?_
    refine va_getN (ci := 8) (v := .ref (b 2)) (C := RX9) (T := TX9) (N := 8) hx hb hts hinX9 hown hK hP 1 rfl rfl 2 (by decide) hf16 (fun _ h9 => h9) rfl dX3_wander_24 ?_
    refine lv_iload_n hx hb dX3_wander_27 rfl (lv_at hl 4 rfl) ?_
    refine ldN (f := fun j => t (21 + j)) hx hb hK hP 4 rfl (j := c) (by omega) (by decide) dX3_wander_28 ?_
    refine top_i (y := (t (21 + c))) rfl ?_
    refine lv_icmp_eq (tgt := 42) hx hb dX3_wander_29 (by decide) (fun c29 => ?_) (fun c29 => ?_)
    · refine lv_aload_n hx hb dX3_wander_42 rfl (lv_at hl 3 rfl) ?_
      refine lv_iload_n hx hb dX3_wander_43 rfl (lv_at hl 4 rfl) ?_
      refine lv_iload hx hb dX3_wander_44 (lv_at hl 0 rfl) ?_
      refine lv_iload_n hx hb dX3_wander_46 rfl (lv_at hl 1 rfl) ?_
      refine call_v (wr := [(g, .inr (3, []))]) (ws' := (fun u4 : (Nat → Int32) => [(g, .inr (3, [])), (a, .inr (8, [.ref (b 0), .ref (b 1), .ref (b 2), .ref (b 3), .int (u4 1), .int (u4 2), .int (u4 3), .int (u4 0)])), ((b 0), wRef (cy 2) 8 S), ((b 1), wInt (cy 0) 8 (fun j => u4 (13 + j))), ((b 2), wInt (cy 0) 8 (fun j => u4 (21 + j))), ((b 3), wInt (cy 0) 8 (fun j => u4 (29 + j)))])) (va_runV (As := [.int (nI c), .int (t (21 + k)), .int (nI k)]) (rest := []) CF (k_X9_stand l D cy _ a b S t c (t (21 + k)) (nI k) n (by first | assumption | omega | decide) (by first | assumption | omega | decide) (by first | assumption | omega | decide)) (cwV 3 hts gX3_wander_X9_stand rfl rfl rfl (by decide +kernel) ⟨Nat.le_of_ble_eq_true rfl, Nat.le_of_ble_eq_true rfl⟩) (pre_V hKN hP hD [1, 2, 3, 4, 5] rfl (by decide) 1 8 rfl rfl) rfl rfl hl.1 rfl (lv_room (Nat.le_of_ble_eq_true rfl)) dX3_wander_47 ⟨Nat.le_of_ble_eq_true rfl, Nat.le_of_ble_eq_true rfl⟩) hS hA hP hD [1, 2, 3, 4, 5] [0] [0, 1, 2, 3, 4, 5] rfl rfl (by decide) (by decide) (fun _ => rfl) (by decide) (fun u4 H locs hw6 hP hD hS => ?_)
      replace hw6 := hw6.symm; subst hw6
      have hP : va_P D vwCl ([(g, .inr (3, [])), (a, .inr (8, [.ref (b 0), .ref (b 1), .ref (b 2), .ref (b 3), .int ((stS t n c (t (21 + k)) (nI k)) 1), .int ((stS t n c (t (21 + k)) (nI k)) 2), .int ((stS t n c (t (21 + k)) (nI k)) 3), .int ((stS t n c (t (21 + k)) (nI k)) 0)])), ((b 0), wRef (cy 2) 8 S), ((b 1), wInt (cy 0) 8 (fun j => (stS t n c (t (21 + k)) (nI k)) (13 + j))), ((b 2), wInt (cy 0) 8 (fun j => (stS t n c (t (21 + k)) (nI k)) (21 + j))), ((b 3), wInt (cy 0) 8 (fun j => (stS t n c (t (21 + k)) (nI k)) (29 + j)))]) H := hP
      have hD : va_D A_ ([(g, .inr (3, [])), (a, .inr (8, [.ref (b 0), .ref (b 1), .ref (b 2), .ref (b 3), .int ((stS t n c (t (21 + k)) (nI k)) 1), .int ((stS t n c (t (21 + k)) (nI k)) 2), .int ((stS t n c (t (21 + k)) (nI k)) 3), .int ((stS t n c (t (21 + k)) (nI k)) 0)])), ((b 0), wRef (cy 2) 8 S), ((b 1), wInt (cy 0) 8 (fun j => (stS t n c (t (21 + k)) (nI k)) (13 + j))), ((b 2), wInt (cy 0) 8 (fun j => (stS t n c (t (21 + k)) (nI k)) (21 + j))), ((b 3), wInt (cy 0) 8 (fun j => (stS t n c (t (21 + k)) (nI k)) (29 + j)))]) := hD
      exact ret (stS t n c (t (21 + k)) (nI k)) _ _ _ _ dX3_wander_50 (by rw [wanF]; first | (rw [if_pos c9]; done) | (rw [if_neg c9, ekc]; first | (rw [if_pos c29, ek]; done) | (rw [if_neg c29]; done))) hP hD hS
    · refine lv_aload_n hx hb dX3_wander_32 rfl (lv_at hl 2 rfl) ?_
      refine lv_aload_n hx hb dX3_wander_33 rfl (lv_at hl 3 rfl) ?_
      refine lv_iload_n hx hb dX3_wander_34 rfl (lv_at hl 4 rfl) ?_
      refine lv_iload_n hx hb dX3_wander_35 rfl (lv_at hl 1 rfl) ?_
      refine call_v (wr := [(g, .inr (3, []))]) (ws' := (fun u7 : (Nat → Int32) => [(g, .inr (3, [])), (a, .inr (8, [.ref (b 0), .ref (b 1), .ref (b 2), .ref (b 3), .int (u7 1), .int (u7 2), .int (u7 3), .int (u7 0)])), ((b 0), wRef (cy 2) 8 S), ((b 1), wInt (cy 0) 8 (fun j => u7 (13 + j))), ((b 2), wInt (cy 0) 8 (fun j => u7 (21 + j))), ((b 3), wInt (cy 0) 8 (fun j => u7 (29 + j)))])) (va_runV (As := [.ref a, .int (nI c), .int (nI k)]) (rest := []) CF (k_X3_goOver l D cy _ g a b S t c k n (by first | assumption | omega | decide) (by first | assumption | omega | decide) (by first | assumption | omega | decide) (by first | assumption | omega | decide)) (cwV 3 hts gX3_wander_X3_goOver rfl rfl rfl (by decide +kernel) ⟨Nat.le_of_ble_eq_true rfl, Nat.le_of_ble_eq_true rfl⟩) (pre_V hKN hP hD [1, 2, 3, 4, 5] rfl (by decide) 0 3 rfl rfl) rfl rfl hl.1 rfl (lv_room (Nat.le_of_ble_eq_true rfl)) dX3_wander_36 ⟨Nat.le_of_ble_eq_true rfl, Nat.le_of_ble_eq_true rfl⟩) hS hA hP hD [1, 2, 3, 4, 5] [0] [0, 1, 2, 3, 4, 5] rfl rfl (by decide) (by decide) (fun _ => rfl) (by decide) (fun u7 H locs hw9 hP hD hS => ?_)
      replace hw9 := hw9.symm; subst hw9
      have hP : va_P D vwCl ([(g, .inr (3, [])), (a, .inr (8, [.ref (b 0), .ref (b 1), .ref (b 2), .ref (b 3), .int ((goF t n c k) 1), .int ((goF t n c k) 2), .int ((goF t n c k) 3), .int ((goF t n c k) 0)])), ((b 0), wRef (cy 2) 8 S), ((b 1), wInt (cy 0) 8 (fun j => (goF t n c k) (13 + j))), ((b 2), wInt (cy 0) 8 (fun j => (goF t n c k) (21 + j))), ((b 3), wInt (cy 0) 8 (fun j => (goF t n c k) (29 + j)))]) H := hP
      have hD : va_D A_ ([(g, .inr (3, [])), (a, .inr (8, [.ref (b 0), .ref (b 1), .ref (b 2), .ref (b 3), .int ((goF t n c k) 1), .int ((goF t n c k) 2), .int ((goF t n c k) 3), .int ((goF t n c k) 0)])), ((b 0), wRef (cy 2) 8 S), ((b 1), wInt (cy 0) 8 (fun j => (goF t n c k) (13 + j))), ((b 2), wInt (cy 0) 8 (fun j => (goF t n c k) (21 + j))), ((b 3), wInt (cy 0) 8 (fun j => (goF t n c k) (29 + j)))]) := hD
      refine lv_goto (tgt := 50) hx hb dX3_wander_39 (by decide) ?_
      exact ret (goF t n c k) _ _ _ _ dX3_wander_50 (by rw [wanF]; first | (rw [if_pos c9]; done) | (rw [if_neg c9, ekc]; first | (rw [if_pos c29, ek]; done) | (rw [if_neg c29]; done))) hP hD hS
  · exact ret t _ _ _ _ dX3_wander_12 (by rw [wanF]; first | (rw [if_pos c9]; done) | (rw [if_neg c9, ekc]; first | (rw [if_pos c29, ek]; done) | (rw [if_neg c29]; done))) hP hD hS
set_option maxHeartbeats 4000000 in
set_option maxRecDepth 100000 in
theorem k_X3_wanderX5 (l : Launch) (D : va_G) (cy : Nat → ClassId) (sz : Nat) (g : Nat) (a : Nat) (b : Nat → Nat) (S : Nat → Option Nat) (t : Nat → Int32) (c : Nat) (n : Nat) (hn : n ≤ 8) (h3 : t 3 = nI n) (hc : c < n) : Met l yX3_wander wsX3_wander (rmD 3) (pPre D (TY cy) ([(g, .inr (4, [])), (a, .inr (8, [.ref (b 0), .ref (b 1), .ref (b 2), .ref (b 3), .int (t 1), .int (t 2), .int (t 3), .int (t 0)])), ((b 0), wRef (cy 2) 8 S), ((b 1), wInt (cy 0) 8 (fun j => t (13 + j))), ((b 2), wInt (cy 0) 8 (fun j => t (21 + j))), ((b 3), wInt (cy 0) 8 (fun j => t (29 + j)))]) sz [.ref g, .ref a, .int (nI c)]) (pV D (TY cy) ([(g, .inr (4, [])), (a, .inr (8, [.ref (b 0), .ref (b 1), .ref (b 2), .ref (b 3), .int (t 1), .int (t 2), .int (t 3), .int (t 0)])), ((b 0), wRef (cy 2) 8 S), ((b 1), wInt (cy 0) 8 (fun j => t (13 + j))), ((b 2), wInt (cy 0) 8 (fun j => t (21 + j))), ((b 3), wInt (cy 0) 8 (fun j => t (29 + j)))]) sz (fun t2 : Nat → Int32 => [(g, .inr (4, [])), (a, .inr (8, [.ref (b 0), .ref (b 1), .ref (b 2), .ref (b 3), .int (t2 1), .int (t2 2), .int (t2 3), .int (t2 0)])), ((b 0), wRef (cy 2) 8 S), ((b 1), wInt (cy 0) 8 (fun j => t2 (13 + j))), ((b 2), wInt (cy 0) 8 (fun j => t2 (21 + j))), ((b 3), wInt (cy 0) 8 (fun j => t2 (29 + j)))]) (fun (u : (Nat → Int32)) => u = wanF t n c)) 0 0 (va_A ([(g, .inr (4, [])), (a, .inr (8, [.ref (b 0), .ref (b 1), .ref (b 2), .ref (b 3), .int (t 1), .int (t 2), .int (t 3), .int (t 0)])), ((b 0), wRef (cy 2) 8 S), ((b 1), wInt (cy 0) 8 (fun j => t (13 + j))), ((b 2), wInt (cy 0) 8 (fun j => t (21 + j))), ((b 3), wInt (cy 0) 8 (fun j => t (29 + j)))]) sz) := by
  refine ent_v (cc := cX3_wander) (maxL := 5) (by decide +kernel) rfl (Nat.le_of_ble_eq_true rfl) ?_
  intro p_ e_ s_ m_ args_ below_ meth_ c_ A_ Q_ ls B0 ret
  obtain ⟨CF, hA, hKN, hP, hD, hl⟩ := B0
  have hK := hKN.1
  obtain ⟨hx, hb, hml, hown, hts⟩ := id CF
  have hS : va_S A_ s_.heap s_.heap [] := va_S.rf
  have hl : lv_has ls 5 [(0, .ref g), (1, .ref a), (2, .int (nI c))] := hl
  have hc15 := hts (.constant RX3 15 (-1000000)) (by decide +kernel)
  have hf16 := va_Nw.use (A := args_) (w := .fieldLinkNest "DrawerCards$Free" 16 "DrawerCards$Shelf" "in" "[I" "DrawerCards") rfl (hKN.2.1 _ (by decide +kernel))
  have hinX9 := show ∀ w ∈ u_ws RX9 TX9 8, w ∈ wsX3_wander from by decide +kernel
  refine lv_aload_n hx hb dX3_wander_0 rfl (lv_at hl 1 rfl) ?_
  refine lv_iload_n hx hb dX3_wander_1 rfl (lv_at hl 2 rfl) ?_
  refine call_i (wr := [(g, .inr (4, []))]) (ws' := (fun _ : Unit => [(g, .inr (4, [])), (a, .inr (8, [.ref (b 0), .ref (b 1), .ref (b 2), .ref (b 3), .int (t 1), .int (t 2), .int (t 3), .int (t 0)])), ((b 0), wRef (cy 2) 8 S), ((b 1), wInt (cy 0) 8 (fun j => t (13 + j))), ((b 2), wInt (cy 0) 8 (fun j => t (21 + j))), ((b 3), wInt (cy 0) 8 (fun j => t (29 + j)))])) (va_runV (As := [.int (nI c)]) (rest := []) CF (k_X9_dear l D cy _ a b S t c n (by first | assumption | omega | decide) (by first | assumption | omega | decide) (by first | assumption | omega | decide)) (cwV 1 hts gX3_wander_X9_dear rfl rfl rfl (by decide +kernel) ⟨Nat.le_of_ble_eq_true rfl, Nat.le_of_ble_eq_true rfl⟩) (pre_V hKN hP hD [1, 2, 3, 4, 5] rfl (by decide) 1 8 rfl rfl) rfl rfl hl.1 rfl (lv_room (Nat.le_of_ble_eq_true rfl)) dX3_wander_2 ⟨Nat.le_of_ble_eq_true rfl, Nat.le_of_ble_eq_true rfl⟩) hS hA hP hD [1, 2, 3, 4, 5] [0] [0, 1, 2, 3, 4, 5] rfl rfl (by decide) (by decide) (fun _ => rfl) (by decide) (fun r2 u1 H locs hw3 hP hD hS => ?_)
  replace hw3 := hw3.symm; subst hw3
  refine lv_istore_n (lv' := [(3, .int (drF t n c)), (0, .ref g), (1, .ref a), (2, .int (nI c))]) hx hb dX3_wander_5 rfl hl (by decide) rfl (fun ls hl => ?_)
  refine lv_iload_n hx hb dX3_wander_6 rfl (lv_at hl 0 rfl) ?_
  refine lv_ldc hx hb hown hc15 dX3_wander_7 ?_
  refine lv_icmp_ne (tgt := 13) hx hb dX3_wander_9 (by decide) (fun c9 => ?_) (fun c9 => ?_)
  · obtain ⟨k, hk, ek⟩ := drF_nat (by omega) c9
    have ekc : cl (drF t n c) = k := (by rw [ek]; exact nI_clamp (by omega))
    rw [ek] at hl
    refine lv_aload_n hx hb dX3_wander_13 rfl (lv_at hl 2 rfl) ?_
    refine va_getN (ci := 8) (v := .ref (b 2)) (C := RX9) (T := TX9) (N := 8) hx hb hts hinX9 hown hK hP 1 rfl rfl 2 (by decide) hf16 (fun _ h9 => h9) rfl dX3_wander_14 ?_
    refine lv_iload_n hx hb dX3_wander_17 rfl (lv_at hl 0 rfl) ?_
    refine ldN (f := fun j => t (21 + j)) hx hb hK hP 4 rfl (j := k) (by omega) (by decide) dX3_wander_18 ?_
    refine top_i (y := (t (21 + k))) rfl ?_
    refine lv_istore (lv' := [(4, .int (t (21 + k))), (3, .int (nI k)), (0, .ref g), (1, .ref a), (2, .int (nI c))]) hx hb dX3_wander_19 hl (by decide) rfl (fun ls hl => ?_)
    refine lv_iload hx hb dX3_wander_21 (lv_at hl 0 rfl) ?_
    refine lv_aload_n hx hb dX3_wander_23 rfl (lv_at hl 3 rfl) ?_
    refine va_getN (ci := 8) (v := .ref (b 2)) (C := RX9) (T := TX9) (N := 8) hx hb hts hinX9 hown hK hP 1 rfl rfl 2 (by decide) hf16 (fun _ h9 => h9) rfl dX3_wander_24 ?_
    refine lv_iload_n hx hb dX3_wander_27 rfl (lv_at hl 4 rfl) ?_
    refine ldN (f := fun j => t (21 + j)) hx hb hK hP 4 rfl (j := c) (by omega) (by decide) dX3_wander_28 ?_
    refine top_i (y := (t (21 + c))) rfl ?_
    refine lv_icmp_eq (tgt := 42) hx hb dX3_wander_29 (by decide) (fun c29 => ?_) (fun c29 => ?_)
    · refine lv_aload_n hx hb dX3_wander_42 rfl (lv_at hl 3 rfl) ?_
      refine lv_iload_n hx hb dX3_wander_43 rfl (lv_at hl 4 rfl) ?_
      refine lv_iload hx hb dX3_wander_44 (lv_at hl 0 rfl) ?_
      refine lv_iload_n hx hb dX3_wander_46 rfl (lv_at hl 1 rfl) ?_
      refine call_v (wr := [(g, .inr (4, []))]) (ws' := (fun u4 : (Nat → Int32) => [(g, .inr (4, [])), (a, .inr (8, [.ref (b 0), .ref (b 1), .ref (b 2), .ref (b 3), .int (u4 1), .int (u4 2), .int (u4 3), .int (u4 0)])), ((b 0), wRef (cy 2) 8 S), ((b 1), wInt (cy 0) 8 (fun j => u4 (13 + j))), ((b 2), wInt (cy 0) 8 (fun j => u4 (21 + j))), ((b 3), wInt (cy 0) 8 (fun j => u4 (29 + j)))])) (va_runV (As := [.int (nI c), .int (t (21 + k)), .int (nI k)]) (rest := []) CF (k_X9_stand l D cy _ a b S t c (t (21 + k)) (nI k) n (by first | assumption | omega | decide) (by first | assumption | omega | decide) (by first | assumption | omega | decide)) (cwV 3 hts gX3_wander_X9_stand rfl rfl rfl (by decide +kernel) ⟨Nat.le_of_ble_eq_true rfl, Nat.le_of_ble_eq_true rfl⟩) (pre_V hKN hP hD [1, 2, 3, 4, 5] rfl (by decide) 1 8 rfl rfl) rfl rfl hl.1 rfl (lv_room (Nat.le_of_ble_eq_true rfl)) dX3_wander_47 ⟨Nat.le_of_ble_eq_true rfl, Nat.le_of_ble_eq_true rfl⟩) hS hA hP hD [1, 2, 3, 4, 5] [0] [0, 1, 2, 3, 4, 5] rfl rfl (by decide) (by decide) (fun _ => rfl) (by decide) (fun u4 H locs hw6 hP hD hS => ?_)
      replace hw6 := hw6.symm; subst hw6
      have hP : va_P D vwCl ([(g, .inr (4, [])), (a, .inr (8, [.ref (b 0), .ref (b 1), .ref (b 2), .ref (b 3), .int ((stS t n c (t (21 + k)) (nI k)) 1), .int ((stS t n c (t (21 + k)) (nI k)) 2), .int ((stS t n c (t (21 + k)) (nI k)) 3), .int ((stS t n c (t (21 + k)) (nI k)) 0)])), ((b 0), wRef (cy 2) 8 S), ((b 1), wInt (cy 0) 8 (fun j => (stS t n c (t (21 + k)) (nI k)) (13 + j))), ((b 2), wInt (cy 0) 8 (fun j => (stS t n c (t (21 + k)) (nI k)) (21 + j))), ((b 3), wInt (cy 0) 8 (fun j => (stS t n c (t (21 + k)) (nI k)) (29 + j)))]) H := hP
      have hD : va_D A_ ([(g, .inr (4, [])), (a, .inr (8, [.ref (b 0), .ref (b 1), .ref (b 2), .ref (b 3), .int ((stS t n c (t (21 + k)) (nI k)) 1), .int ((stS t n c (t (21 + k)) (nI k)) 2), .int ((stS t n c (t (21 + k)) (nI k)) 3), .int ((stS t n c (t (21 + k)) (nI k)) 0)])), ((b 0), wRef (cy 2) 8 S), ((b 1), wInt (cy 0) 8 (fun j => (stS t n c (t (21 + k)) (nI k)) (13 + j))), ((b 2), wInt (cy 0) 8 (fun j => (stS t n c (t (21 + k)) (nI k)) (21 + j))), ((b 3), wInt (cy 0) 8 (fun j => (stS t n c (t (21 + k)) (nI k)) (29 + j)))]) := hD
      exact ret (stS t n c (t (21 + k)) (nI k)) _ _ _ _ dX3_wander_50 (by rw [wanF]; first | (rw [if_pos c9]; done) | (rw [if_neg c9, ekc]; first | (rw [if_pos c29, ek]; done) | (rw [if_neg c29]; done))) hP hD hS
    · refine lv_aload_n hx hb dX3_wander_32 rfl (lv_at hl 2 rfl) ?_
      refine lv_aload_n hx hb dX3_wander_33 rfl (lv_at hl 3 rfl) ?_
      refine lv_iload_n hx hb dX3_wander_34 rfl (lv_at hl 4 rfl) ?_
      refine lv_iload_n hx hb dX3_wander_35 rfl (lv_at hl 1 rfl) ?_
      refine call_v (wr := [(g, .inr (4, []))]) (ws' := (fun u7 : (Nat → Int32) => [(g, .inr (4, [])), (a, .inr (8, [.ref (b 0), .ref (b 1), .ref (b 2), .ref (b 3), .int (u7 1), .int (u7 2), .int (u7 3), .int (u7 0)])), ((b 0), wRef (cy 2) 8 S), ((b 1), wInt (cy 0) 8 (fun j => u7 (13 + j))), ((b 2), wInt (cy 0) 8 (fun j => u7 (21 + j))), ((b 3), wInt (cy 0) 8 (fun j => u7 (29 + j)))])) (va_runU (As := [.ref a, .int (nI c), .int (nI k)]) (rest := []) CF (k_X3_goOver l D cy _ g a b S t c k n (by first | assumption | omega | decide) (by first | assumption | omega | decide) (by first | assumption | omega | decide) (by first | assumption | omega | decide)) (va_cwU 3 hts gX3_wander_X3_goOver_u20X5 rfl rfl rfl rfl (by decide +kernel) ⟨Nat.le_of_ble_eq_true rfl, Nat.le_of_ble_eq_true rfl⟩) (pre_V hKN hP hD [1, 2, 3, 4, 5] rfl (by decide) 0 4 rfl rfl) rfl rfl hl.1 rfl (lv_room (Nat.le_of_ble_eq_true rfl)) dX3_wander_36 ⟨Nat.le_of_ble_eq_true rfl, Nat.le_of_ble_eq_true rfl⟩) hS hA hP hD [1, 2, 3, 4, 5] [0] [0, 1, 2, 3, 4, 5] rfl rfl (by decide) (by decide) (fun _ => rfl) (by decide) (fun u7 H locs hw9 hP hD hS => ?_)
      replace hw9 := hw9.symm; subst hw9
      have hP : va_P D vwCl ([(g, .inr (4, [])), (a, .inr (8, [.ref (b 0), .ref (b 1), .ref (b 2), .ref (b 3), .int ((goF t n c k) 1), .int ((goF t n c k) 2), .int ((goF t n c k) 3), .int ((goF t n c k) 0)])), ((b 0), wRef (cy 2) 8 S), ((b 1), wInt (cy 0) 8 (fun j => (goF t n c k) (13 + j))), ((b 2), wInt (cy 0) 8 (fun j => (goF t n c k) (21 + j))), ((b 3), wInt (cy 0) 8 (fun j => (goF t n c k) (29 + j)))]) H := hP
      have hD : va_D A_ ([(g, .inr (4, [])), (a, .inr (8, [.ref (b 0), .ref (b 1), .ref (b 2), .ref (b 3), .int ((goF t n c k) 1), .int ((goF t n c k) 2), .int ((goF t n c k) 3), .int ((goF t n c k) 0)])), ((b 0), wRef (cy 2) 8 S), ((b 1), wInt (cy 0) 8 (fun j => (goF t n c k) (13 + j))), ((b 2), wInt (cy 0) 8 (fun j => (goF t n c k) (21 + j))), ((b 3), wInt (cy 0) 8 (fun j => (goF t n c k) (29 + j)))]) := hD
      refine lv_goto (tgt := 50) hx hb dX3_wander_39 (by decide) ?_
      exact ret (goF t n c k) _ _ _ _ dX3_wander_50 (by rw [wanF]; first | (rw [if_pos c9]; done) | (rw [if_neg c9, ekc]; first | (rw [if_pos c29, ek]; done) | (rw [if_neg c29]; done))) hP hD hS
  · exact ret t _ _ _ _ dX3_wander_12 (by rw [wanF]; first | (rw [if_pos c9]; done) | (rw [if_neg c9, ekc]; first | (rw [if_pos c29, ek]; done) | (rw [if_neg c29]; done))) hP hD hS
set_option maxHeartbeats 4000000 in
set_option maxRecDepth 100000 in
theorem k_X3_wanderX10 (l : Launch) (D : va_G) (cy : Nat → ClassId) (sz : Nat) (g : Nat) (a : Nat) (b : Nat → Nat) (S : Nat → Option Nat) (t : Nat → Int32) (c : Nat) (n : Nat) (hn : n ≤ 8) (h3 : t 3 = nI n) (hc : c < n) : Met l yX3_wander wsX3_wander (rmD 3) (pPre D (TY cy) ([(g, .inr (9, [])), (a, .inr (8, [.ref (b 0), .ref (b 1), .ref (b 2), .ref (b 3), .int (t 1), .int (t 2), .int (t 3), .int (t 0)])), ((b 0), wRef (cy 2) 8 S), ((b 1), wInt (cy 0) 8 (fun j => t (13 + j))), ((b 2), wInt (cy 0) 8 (fun j => t (21 + j))), ((b 3), wInt (cy 0) 8 (fun j => t (29 + j)))]) sz [.ref g, .ref a, .int (nI c)]) (pV D (TY cy) ([(g, .inr (9, [])), (a, .inr (8, [.ref (b 0), .ref (b 1), .ref (b 2), .ref (b 3), .int (t 1), .int (t 2), .int (t 3), .int (t 0)])), ((b 0), wRef (cy 2) 8 S), ((b 1), wInt (cy 0) 8 (fun j => t (13 + j))), ((b 2), wInt (cy 0) 8 (fun j => t (21 + j))), ((b 3), wInt (cy 0) 8 (fun j => t (29 + j)))]) sz (fun t2 : Nat → Int32 => [(g, .inr (9, [])), (a, .inr (8, [.ref (b 0), .ref (b 1), .ref (b 2), .ref (b 3), .int (t2 1), .int (t2 2), .int (t2 3), .int (t2 0)])), ((b 0), wRef (cy 2) 8 S), ((b 1), wInt (cy 0) 8 (fun j => t2 (13 + j))), ((b 2), wInt (cy 0) 8 (fun j => t2 (21 + j))), ((b 3), wInt (cy 0) 8 (fun j => t2 (29 + j)))]) (fun (u : (Nat → Int32)) => u = wanW t n c)) 0 0 (va_A ([(g, .inr (9, [])), (a, .inr (8, [.ref (b 0), .ref (b 1), .ref (b 2), .ref (b 3), .int (t 1), .int (t 2), .int (t 3), .int (t 0)])), ((b 0), wRef (cy 2) 8 S), ((b 1), wInt (cy 0) 8 (fun j => t (13 + j))), ((b 2), wInt (cy 0) 8 (fun j => t (21 + j))), ((b 3), wInt (cy 0) 8 (fun j => t (29 + j)))]) sz) := by
  refine ent_v (cc := cX3_wander) (maxL := 5) (by decide +kernel) rfl (Nat.le_of_ble_eq_true rfl) ?_
  intro p_ e_ s_ m_ args_ below_ meth_ c_ A_ Q_ ls B0 ret
  obtain ⟨CF, hA, hKN, hP, hD, hl⟩ := B0
  have hK := hKN.1
  obtain ⟨hx, hb, hml, hown, hts⟩ := id CF
  have hS : va_S A_ s_.heap s_.heap [] := va_S.rf
  have hl : lv_has ls 5 [(0, .ref g), (1, .ref a), (2, .int (nI c))] := hl
  have hc15 := hts (.constant RX3 15 (-1000000)) (by decide +kernel)
  have hf16 := va_Nw.use (A := args_) (w := .fieldLinkNest "DrawerCards$Free" 16 "DrawerCards$Shelf" "in" "[I" "DrawerCards") rfl (hKN.2.1 _ (by decide +kernel))
  have hinX9 := show ∀ w ∈ u_ws RX9 TX9 8, w ∈ wsX3_wander from by decide +kernel
  have hcd_X3_goOver := (show Cond.code yX3_goOver cX3_goOver 6 none ∈ wsX3_wander from List.mem_of_getElem? (i := 18) rfl)
  refine lv_aload_n hx hb dX3_wander_0 rfl (lv_at hl 1 rfl) ?_
  refine lv_iload_n hx hb dX3_wander_1 rfl (lv_at hl 2 rfl) ?_
  refine call_i (wr := [(g, .inr (9, []))]) (ws' := (fun _ : Unit => [(g, .inr (9, [])), (a, .inr (8, [.ref (b 0), .ref (b 1), .ref (b 2), .ref (b 3), .int (t 1), .int (t 2), .int (t 3), .int (t 0)])), ((b 0), wRef (cy 2) 8 S), ((b 1), wInt (cy 0) 8 (fun j => t (13 + j))), ((b 2), wInt (cy 0) 8 (fun j => t (21 + j))), ((b 3), wInt (cy 0) 8 (fun j => t (29 + j)))])) (va_runV (As := [.int (nI c)]) (rest := []) CF (k_X9_dear l D cy _ a b S t c n (by first | assumption | omega | decide) (by first | assumption | omega | decide) (by first | assumption | omega | decide)) (cwV 1 hts gX3_wander_X9_dear rfl rfl rfl (by decide +kernel) ⟨Nat.le_of_ble_eq_true rfl, Nat.le_of_ble_eq_true rfl⟩) (pre_V hKN hP hD [1, 2, 3, 4, 5] rfl (by decide) 1 8 rfl rfl) rfl rfl hl.1 rfl (lv_room (Nat.le_of_ble_eq_true rfl)) dX3_wander_2 ⟨Nat.le_of_ble_eq_true rfl, Nat.le_of_ble_eq_true rfl⟩) hS hA hP hD [1, 2, 3, 4, 5] [0] [0, 1, 2, 3, 4, 5] rfl rfl (by decide) (by decide) (fun _ => rfl) (by decide) (fun r2 u1 H locs hw3 hP hD hS => ?_)
  replace hw3 := hw3.symm; subst hw3
  refine lv_istore_n (lv' := [(3, .int (drF t n c)), (0, .ref g), (1, .ref a), (2, .int (nI c))]) hx hb dX3_wander_5 rfl hl (by decide) rfl (fun ls hl => ?_)
  refine lv_iload_n hx hb dX3_wander_6 rfl (lv_at hl 0 rfl) ?_
  refine lv_ldc hx hb hown hc15 dX3_wander_7 ?_
  refine lv_icmp_ne (tgt := 13) hx hb dX3_wander_9 (by decide) (fun c9 => ?_) (fun c9 => ?_)
  · obtain ⟨k, hk, ek⟩ := drF_nat (by omega) c9
    have ekc : cl (drF t n c) = k := (by rw [ek]; exact nI_clamp (by omega))
    rw [ek] at hl
    refine lv_aload_n hx hb dX3_wander_13 rfl (lv_at hl 2 rfl) ?_
    refine va_getN (ci := 8) (v := .ref (b 2)) (C := RX9) (T := TX9) (N := 8) hx hb hts hinX9 hown hK hP 1 rfl rfl 2 (by decide) hf16 (fun _ h9 => h9) rfl dX3_wander_14 ?_
    refine lv_iload_n hx hb dX3_wander_17 rfl (lv_at hl 0 rfl) ?_
    refine ldN (f := fun j => t (21 + j)) hx hb hK hP 4 rfl (j := k) (by omega) (by decide) dX3_wander_18 ?_
    refine top_i (y := (t (21 + k))) rfl ?_
    refine lv_istore (lv' := [(4, .int (t (21 + k))), (3, .int (nI k)), (0, .ref g), (1, .ref a), (2, .int (nI c))]) hx hb dX3_wander_19 hl (by decide) rfl (fun ls hl => ?_)
    refine lv_iload hx hb dX3_wander_21 (lv_at hl 0 rfl) ?_
    refine lv_aload_n hx hb dX3_wander_23 rfl (lv_at hl 3 rfl) ?_
    refine va_getN (ci := 8) (v := .ref (b 2)) (C := RX9) (T := TX9) (N := 8) hx hb hts hinX9 hown hK hP 1 rfl rfl 2 (by decide) hf16 (fun _ h9 => h9) rfl dX3_wander_24 ?_
    refine lv_iload_n hx hb dX3_wander_27 rfl (lv_at hl 4 rfl) ?_
    refine ldN (f := fun j => t (21 + j)) hx hb hK hP 4 rfl (j := c) (by omega) (by decide) dX3_wander_28 ?_
    refine top_i (y := (t (21 + c))) rfl ?_
    refine lv_icmp_eq (tgt := 42) hx hb dX3_wander_29 (by decide) (fun c29 => ?_) (fun c29 => ?_)
    · refine lv_aload_n hx hb dX3_wander_42 rfl (lv_at hl 3 rfl) ?_
      refine lv_iload_n hx hb dX3_wander_43 rfl (lv_at hl 4 rfl) ?_
      refine lv_iload hx hb dX3_wander_44 (lv_at hl 0 rfl) ?_
      refine lv_iload_n hx hb dX3_wander_46 rfl (lv_at hl 1 rfl) ?_
      refine call_v (wr := [(g, .inr (9, []))]) (ws' := (fun u4 : (Nat → Int32) => [(g, .inr (9, [])), (a, .inr (8, [.ref (b 0), .ref (b 1), .ref (b 2), .ref (b 3), .int (u4 1), .int (u4 2), .int (u4 3), .int (u4 0)])), ((b 0), wRef (cy 2) 8 S), ((b 1), wInt (cy 0) 8 (fun j => u4 (13 + j))), ((b 2), wInt (cy 0) 8 (fun j => u4 (21 + j))), ((b 3), wInt (cy 0) 8 (fun j => u4 (29 + j)))])) (va_runV (As := [.int (nI c), .int (t (21 + k)), .int (nI k)]) (rest := []) CF (k_X9_stand l D cy _ a b S t c (t (21 + k)) (nI k) n (by first | assumption | omega | decide) (by first | assumption | omega | decide) (by first | assumption | omega | decide)) (cwV 3 hts gX3_wander_X9_stand rfl rfl rfl (by decide +kernel) ⟨Nat.le_of_ble_eq_true rfl, Nat.le_of_ble_eq_true rfl⟩) (pre_V hKN hP hD [1, 2, 3, 4, 5] rfl (by decide) 1 8 rfl rfl) rfl rfl hl.1 rfl (lv_room (Nat.le_of_ble_eq_true rfl)) dX3_wander_47 ⟨Nat.le_of_ble_eq_true rfl, Nat.le_of_ble_eq_true rfl⟩) hS hA hP hD [1, 2, 3, 4, 5] [0] [0, 1, 2, 3, 4, 5] rfl rfl (by decide) (by decide) (fun _ => rfl) (by decide) (fun u4 H locs hw6 hP hD hS => ?_)
      replace hw6 := hw6.symm; subst hw6
      have hP : va_P D vwCl ([(g, .inr (9, [])), (a, .inr (8, [.ref (b 0), .ref (b 1), .ref (b 2), .ref (b 3), .int ((stS t n c (t (21 + k)) (nI k)) 1), .int ((stS t n c (t (21 + k)) (nI k)) 2), .int ((stS t n c (t (21 + k)) (nI k)) 3), .int ((stS t n c (t (21 + k)) (nI k)) 0)])), ((b 0), wRef (cy 2) 8 S), ((b 1), wInt (cy 0) 8 (fun j => (stS t n c (t (21 + k)) (nI k)) (13 + j))), ((b 2), wInt (cy 0) 8 (fun j => (stS t n c (t (21 + k)) (nI k)) (21 + j))), ((b 3), wInt (cy 0) 8 (fun j => (stS t n c (t (21 + k)) (nI k)) (29 + j)))]) H := hP
      have hD : va_D A_ ([(g, .inr (9, [])), (a, .inr (8, [.ref (b 0), .ref (b 1), .ref (b 2), .ref (b 3), .int ((stS t n c (t (21 + k)) (nI k)) 1), .int ((stS t n c (t (21 + k)) (nI k)) 2), .int ((stS t n c (t (21 + k)) (nI k)) 3), .int ((stS t n c (t (21 + k)) (nI k)) 0)])), ((b 0), wRef (cy 2) 8 S), ((b 1), wInt (cy 0) 8 (fun j => (stS t n c (t (21 + k)) (nI k)) (13 + j))), ((b 2), wInt (cy 0) 8 (fun j => (stS t n c (t (21 + k)) (nI k)) (21 + j))), ((b 3), wInt (cy 0) 8 (fun j => (stS t n c (t (21 + k)) (nI k)) (29 + j)))]) := hD
      exact ret (stS t n c (t (21 + k)) (nI k)) _ _ _ _ dX3_wander_50 (by rw [wanW]; first | (rw [if_pos c9]; done) | (rw [if_neg c9, ekc]; first | (rw [if_pos c29, ek]; done) | (rw [if_neg c29]; done))) hP hD hS
    · refine lv_aload_n hx hb dX3_wander_32 rfl (lv_at hl 2 rfl) ?_
      refine lv_aload_n hx hb dX3_wander_33 rfl (lv_at hl 3 rfl) ?_
      refine lv_iload_n hx hb dX3_wander_34 rfl (lv_at hl 4 rfl) ?_
      refine lv_iload_n hx hb dX3_wander_35 rfl (lv_at hl 1 rfl) ?_
      refine call_v (wr := [(g, .inr (9, []))]) (ws' := (fun u7 : (Nat → Int32) => [(g, .inr (9, [])), (a, .inr (8, [.ref (b 0), .ref (b 1), .ref (b 2), .ref (b 3), .int (u7 1), .int (u7 2), .int (u7 3), .int (u7 0)])), ((b 0), wRef (cy 2) 8 S), ((b 1), wInt (cy 0) 8 (fun j => u7 (13 + j))), ((b 2), wInt (cy 0) 8 (fun j => u7 (21 + j))), ((b 3), wInt (cy 0) 8 (fun j => u7 (29 + j)))])) (va_runU (As := [.ref a, .int (nI c), .int (nI k)]) (rest := []) CF (k_X10_goOver l D cy _ g a b S t c k n (by first | assumption | omega | decide) (by first | assumption | omega | decide) (by first | assumption | omega | decide) (by first | assumption | omega | decide)) (va_cwO 3 hts gX3_wander_X10_goOver_u20X10 rfl rfl rfl hcd_X3_goOver (by decide +kernel) ⟨Nat.le_of_ble_eq_true rfl, Nat.le_of_ble_eq_true rfl⟩) (pre_V hKN hP hD [1, 2, 3, 4, 5] rfl (by decide) 0 9 rfl rfl) rfl rfl hl.1 rfl (lv_room (Nat.le_of_ble_eq_true rfl)) dX3_wander_36 ⟨Nat.le_of_ble_eq_true rfl, Nat.le_of_ble_eq_true rfl⟩) hS hA hP hD [1, 2, 3, 4, 5] [0] [0, 1, 2, 3, 4, 5] rfl rfl (by decide) (by decide) (fun _ => rfl) (by decide) (fun u7 H locs hw9 hP hD hS => ?_)
      replace hw9 := hw9.symm; subst hw9
      have hP : va_P D vwCl ([(g, .inr (9, [])), (a, .inr (8, [.ref (b 0), .ref (b 1), .ref (b 2), .ref (b 3), .int ((goW t n c k) 1), .int ((goW t n c k) 2), .int ((goW t n c k) 3), .int ((goW t n c k) 0)])), ((b 0), wRef (cy 2) 8 S), ((b 1), wInt (cy 0) 8 (fun j => (goW t n c k) (13 + j))), ((b 2), wInt (cy 0) 8 (fun j => (goW t n c k) (21 + j))), ((b 3), wInt (cy 0) 8 (fun j => (goW t n c k) (29 + j)))]) H := hP
      have hD : va_D A_ ([(g, .inr (9, [])), (a, .inr (8, [.ref (b 0), .ref (b 1), .ref (b 2), .ref (b 3), .int ((goW t n c k) 1), .int ((goW t n c k) 2), .int ((goW t n c k) 3), .int ((goW t n c k) 0)])), ((b 0), wRef (cy 2) 8 S), ((b 1), wInt (cy 0) 8 (fun j => (goW t n c k) (13 + j))), ((b 2), wInt (cy 0) 8 (fun j => (goW t n c k) (21 + j))), ((b 3), wInt (cy 0) 8 (fun j => (goW t n c k) (29 + j)))]) := hD
      refine lv_goto (tgt := 50) hx hb dX3_wander_39 (by decide) ?_
      exact ret (goW t n c k) _ _ _ _ dX3_wander_50 (by rw [wanW]; first | (rw [if_pos c9]; done) | (rw [if_neg c9, ekc]; first | (rw [if_pos c29, ek]; done) | (rw [if_neg c29]; done))) hP hD hS
  · exact ret t _ _ _ _ dX3_wander_12 (by rw [wanW]; first | (rw [if_pos c9]; done) | (rw [if_neg c9, ekc]; first | (rw [if_pos c29, ek]; done) | (rw [if_neg c29]; done))) hP hD hS
set_option maxHeartbeats 4000000 in
set_option maxRecDepth 100000 in
theorem k_X7_wander (l : Launch) (D : va_G) (cy : Nat → ClassId) (sz : Nat) (g : Nat) (a : Nat) (c : Nat)  : Met l yX7_wander wsX7_wander (rmD 0) (pPre D (TY cy) ([]) sz [.ref g, .ref a, .int (nI c)]) (pV D (TY cy) ([]) sz (fun _ : Unit => []) (fun (_ : Unit) => True)) 0 0 (va_A ([]) sz) := by
  refine ent_v (cc := cX7_wander) (maxL := 3) (by decide +kernel) rfl (Nat.le_of_ble_eq_true rfl) ?_
  intro p_ e_ s_ m_ args_ below_ meth_ c_ A_ Q_ ls B0 ret
  obtain ⟨CF, hA, hKN, hP, hD, hl⟩ := B0
  have hK := hKN.1
  obtain ⟨hx, hb, hml, hown, hts⟩ := id CF
  have hS : va_S A_ s_.heap s_.heap [] := va_S.rf
  have hl : lv_has ls 3 [(0, .ref g), (1, .ref a), (2, .int (nI c))] := hl
  exact ret () _ _ _ _ dX7_wander_0 trivial hP hD hS
set_option maxHeartbeats 4000000 in
set_option maxRecDepth 100000 in
theorem k_X1_wander (l : Launch) (D : va_G) (cy : Nat → ClassId) (sz : Nat) (g : Nat) (a : Nat) (b : Nat → Nat) (S : Nat → Option Nat) (t : Nat → Int32) (c : Nat) (n : Nat) (hn : n ≤ 8) (h3 : t 3 = nI n) (hc : c < n) : Met l yX1_wander wsX1_wander (rmD 1) (pPre D (TY cy) ([(a, .inr (8, [.ref (b 0), .ref (b 1), .ref (b 2), .ref (b 3), .int (t 1), .int (t 2), .int (t 3), .int (t 0)])), ((b 0), wRef (cy 2) 8 S), ((b 1), wInt (cy 0) 8 (fun j => t (13 + j))), ((b 2), wInt (cy 0) 8 (fun j => t (21 + j))), ((b 3), wInt (cy 0) 8 (fun j => t (29 + j)))]) sz [.ref g, .ref a, .int (nI c)]) (pV D (TY cy) ([(a, .inr (8, [.ref (b 0), .ref (b 1), .ref (b 2), .ref (b 3), .int (t 1), .int (t 2), .int (t 3), .int (t 0)])), ((b 0), wRef (cy 2) 8 S), ((b 1), wInt (cy 0) 8 (fun j => t (13 + j))), ((b 2), wInt (cy 0) 8 (fun j => t (21 + j))), ((b 3), wInt (cy 0) 8 (fun j => t (29 + j)))]) sz (fun t2 : Nat → Int32 => [(a, .inr (8, [.ref (b 0), .ref (b 1), .ref (b 2), .ref (b 3), .int (t2 1), .int (t2 2), .int (t2 3), .int (t2 0)])), ((b 0), wRef (cy 2) 8 S), ((b 1), wInt (cy 0) 8 (fun j => t2 (13 + j))), ((b 2), wInt (cy 0) 8 (fun j => t2 (21 + j))), ((b 3), wInt (cy 0) 8 (fun j => t2 (29 + j)))]) (fun (u : (Nat → Int32)) => u = wanB t n c)) 0 0 (va_A ([(a, .inr (8, [.ref (b 0), .ref (b 1), .ref (b 2), .ref (b 3), .int (t 1), .int (t 2), .int (t 3), .int (t 0)])), ((b 0), wRef (cy 2) 8 S), ((b 1), wInt (cy 0) 8 (fun j => t (13 + j))), ((b 2), wInt (cy 0) 8 (fun j => t (21 + j))), ((b 3), wInt (cy 0) 8 (fun j => t (29 + j)))]) sz) := by
  refine ent_v (cc := cX1_wander) (maxL := 4) (by decide +kernel) rfl (Nat.le_of_ble_eq_true rfl) ?_
  intro p_ e_ s_ m_ args_ below_ meth_ c_ A_ Q_ ls B0 ret
  obtain ⟨CF, hA, hKN, hP, hD, hl⟩ := B0
  have hK := hKN.1
  obtain ⟨hx, hb, hml, hown, hts⟩ := id CF
  have hS : va_S A_ s_.heap s_.heap [] := va_S.rf
  have hl : lv_has ls 4 [(0, .ref g), (1, .ref a), (2, .int (nI c))] := hl
  have hf9 := va_Nw.use (A := args_) (w := .fieldLinkNest "DrawerCards$Blank" 9 "DrawerCards$Shelf" "in" "[I" "DrawerCards") rfl (hKN.2.1 _ (by decide +kernel))
  have hinX9 := show ∀ w ∈ u_ws RX9 TX9 8, w ∈ wsX1_wander from by decide +kernel
  have hf15 := va_Nw.use (A := args_) (w := .fieldLinkNest "DrawerCards$Blank" 15 "DrawerCards$Shelf" "place" "[I" "DrawerCards") rfl (hKN.2.1 _ (by decide +kernel))
  have hc22 := hts (.constant RX1 22 (-1000000)) (by decide +kernel)
  refine lv_aload_n hx hb dX1_wander_0 rfl (lv_at hl 1 rfl) ?_
  refine lv_aload_n hx hb dX1_wander_1 rfl (lv_at hl 1 rfl) ?_
  refine va_getN (ci := 8) (v := .ref (b 2)) (C := RX9) (T := TX9) (N := 8) hx hb hts hinX9 hown hK hP 0 rfl rfl 2 (by decide) hf9 (fun _ h9 => h9) rfl dX1_wander_2 ?_
  refine lv_iload_n hx hb dX1_wander_5 rfl (lv_at hl 2 rfl) ?_
  refine ldN (f := fun j => t (21 + j)) hx hb hK hP 3 rfl (j := c) (by omega) (by decide) dX1_wander_6 ?_
  refine top_i (y := (t (21 + c))) rfl ?_
  refine lv_aload_n hx hb dX1_wander_7 rfl (lv_at hl 1 rfl) ?_
  refine va_getN (ci := 8) (v := .ref (b 3)) (C := RX9) (T := TX9) (N := 8) hx hb hts hinX9 hown hK hP 0 rfl rfl 3 (by decide) hf15 (fun _ h9 => h9) rfl dX1_wander_8 ?_
  refine lv_iload_n hx hb dX1_wander_11 rfl (lv_at hl 2 rfl) ?_
  refine ldN (f := fun j => t (29 + j)) hx hb hK hP 4 rfl (j := c) (by omega) (by decide) dX1_wander_12 ?_
  refine top_i (y := (t (29 + c))) rfl ?_
  refine lv_iconst (v := nI 1) hx hb dX1_wander_13 (by decide) ?_
  refine lv_isub hx hb dX1_wander_14 ?_
  refine call_i (wr := []) (ws' := (fun _ : Unit => [(a, .inr (8, [.ref (b 0), .ref (b 1), .ref (b 2), .ref (b 3), .int (t 1), .int (t 2), .int (t 3), .int (t 0)])), ((b 0), wRef (cy 2) 8 S), ((b 1), wInt (cy 0) 8 (fun j => t (13 + j))), ((b 2), wInt (cy 0) 8 (fun j => t (21 + j))), ((b 3), wInt (cy 0) 8 (fun j => t (29 + j)))])) (va_runV (As := [.int (t (21 + c)), .int (t (29 + c) - nI 1)]) (rest := []) CF (k_X9_cardAt l D cy _ a b S t (t (21 + c)) (t (29 + c) - nI 1) n (by first | assumption | omega | decide) (by first | assumption | omega | decide)) (cwV 2 hts gX1_wander_X9_cardAt rfl rfl rfl (by decide +kernel) ⟨Nat.le_of_ble_eq_true rfl, Nat.le_of_ble_eq_true rfl⟩) (pre_V hKN hP hD [0, 1, 2, 3, 4] rfl (by decide) 0 8 rfl rfl) rfl rfl hl.1 rfl (lv_room (Nat.le_of_ble_eq_true rfl)) dX1_wander_15 ⟨Nat.le_of_ble_eq_true rfl, Nat.le_of_ble_eq_true rfl⟩) hS hA hP hD [0, 1, 2, 3, 4] [] [0, 1, 2, 3, 4] rfl rfl (by decide) (by decide) (fun _ => rfl) (by decide) (fun r2 u1 H locs hw3 hP hD hS => ?_)
  replace hw3 := hw3.symm; subst hw3
  refine lv_istore_n (lv' := [(3, .int (cdF t (t (21 + c)) (t (29 + c) - nI 1) n 0)), (0, .ref g), (1, .ref a), (2, .int (nI c))]) hx hb dX1_wander_18 rfl hl (by decide) rfl (fun ls hl => ?_)
  refine lv_iload_n hx hb dX1_wander_19 rfl (lv_at hl 0 rfl) ?_
  refine lv_ldc hx hb hown hc22 dX1_wander_20 ?_
  refine lv_icmp_eq (tgt := 31) hx hb dX1_wander_22 (by decide) (fun c22 => ?_) (fun c22 => ?_)
  · exact ret t _ _ _ _ dX1_wander_31 (by rw [wanB]; first | (rw [if_pos c22]; done) | (rw [if_neg c22, ekc]; done)) hP hD hS
  · obtain ⟨k, hk, ek⟩ := cdF_nat c22
    have ekc : cl (cdF t (t (21 + c)) (t (29 + c) - nI 1) n 0) = k := (by rw [ek]; exact nI_clamp (by omega))
    rw [ek] at hl
    refine lv_aload_n hx hb dX1_wander_25 rfl (lv_at hl 2 rfl) ?_
    refine lv_iload_n hx hb dX1_wander_26 rfl (lv_at hl 3 rfl) ?_
    refine lv_iload_n hx hb dX1_wander_27 rfl (lv_at hl 0 rfl) ?_
    refine call_v (wr := []) (ws' := (fun u4 : (Nat → Int32) => [(a, .inr (8, [.ref (b 0), .ref (b 1), .ref (b 2), .ref (b 3), .int (u4 1), .int (u4 2), .int (u4 3), .int (u4 0)])), ((b 0), wRef (cy 2) 8 S), ((b 1), wInt (cy 0) 8 (fun j => u4 (13 + j))), ((b 2), wInt (cy 0) 8 (fun j => u4 (21 + j))), ((b 3), wInt (cy 0) 8 (fun j => u4 (29 + j)))])) (va_runV (As := [.int (nI c), .int (nI k)]) (rest := []) CF (k_X9_changePlaces l D cy _ a b S t c k (by first | assumption | omega | decide) (by first | assumption | omega | decide)) (cwV 2 hts gX1_wander_X9_changePlaces rfl rfl rfl (by decide +kernel) ⟨Nat.le_of_ble_eq_true rfl, Nat.le_of_ble_eq_true rfl⟩) (pre_V hKN hP hD [0, 1, 2, 3, 4] rfl (by decide) 0 8 rfl rfl) rfl rfl hl.1 rfl (lv_room (Nat.le_of_ble_eq_true rfl)) dX1_wander_28 ⟨Nat.le_of_ble_eq_true rfl, Nat.le_of_ble_eq_true rfl⟩) hS hA hP hD [0, 1, 2, 3, 4] [] [0, 1, 2, 3, 4] rfl rfl (by decide) (by decide) (fun _ => rfl) (by decide) (fun u4 H locs hw6 hP hD hS => ?_)
    replace hw6 := hw6.symm; subst hw6
    have hP : va_P D vwCl ([(a, .inr (8, [.ref (b 0), .ref (b 1), .ref (b 2), .ref (b 3), .int ((cpS t c k) 1), .int ((cpS t c k) 2), .int ((cpS t c k) 3), .int ((cpS t c k) 0)])), ((b 0), wRef (cy 2) 8 S), ((b 1), wInt (cy 0) 8 (fun j => (cpS t c k) (13 + j))), ((b 2), wInt (cy 0) 8 (fun j => (cpS t c k) (21 + j))), ((b 3), wInt (cy 0) 8 (fun j => (cpS t c k) (29 + j)))]) H := hP
    have hD : va_D A_ ([(a, .inr (8, [.ref (b 0), .ref (b 1), .ref (b 2), .ref (b 3), .int ((cpS t c k) 1), .int ((cpS t c k) 2), .int ((cpS t c k) 3), .int ((cpS t c k) 0)])), ((b 0), wRef (cy 2) 8 S), ((b 1), wInt (cy 0) 8 (fun j => (cpS t c k) (13 + j))), ((b 2), wInt (cy 0) 8 (fun j => (cpS t c k) (21 + j))), ((b 3), wInt (cy 0) 8 (fun j => (cpS t c k) (29 + j)))]) := hD
    exact ret (cpS t c k) _ _ _ _ dX1_wander_31 (by rw [wanB]; first | (rw [if_pos c22]; done) | (rw [if_neg c22, ekc]; done)) hP hD hS
