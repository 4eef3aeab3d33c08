set_option maxHeartbeats 4000000 in
set_option maxRecDepth 100000 in
theorem k_X6_isFull (l : Launch) (D : va_G) (cy : Nat → ClassId) (sz : Nat) (rd : Nat) (tp : Nat) (kk : Nat) (sa : Nat) (L : Nat) (w4 : Int32) (p : Nat) (w6 : Int32) (w7 : Int32) (w8 : Int32) (w9 : Int32) (hL : L ≤ 60) : Met l yX6_isFull wsX6_isFull (rmD 0) (pPre D (TY cy) ([(rd, .inr (5, [.ref tp, .ref kk, .ref sa, .int (nI L), .int w4, .int (nI p), .int w6, .int w7, .int w8, .int w9]))]) sz [.ref rd]) (pI D (TY cy) ([(rd, .inr (5, [.ref tp, .ref kk, .ref sa, .int (nI L), .int w4, .int (nI p), .int w6, .int w7, .int w8, .int w9]))]) sz (fun _ : Unit => [(rd, .inr (5, [.ref tp, .ref kk, .ref sa, .int (nI L), .int w4, .int (nI p), .int w6, .int w7, .int w8, .int w9]))]) (fun (r_ : Int32) (_ : Unit) => r_ = bI (60 ≤ L))) 0 0 (va_A ([(rd, .inr (5, [.ref tp, .ref kk, .ref sa, .int (nI L), .int w4, .int (nI p), .int w6, .int w7, .int w8, .int w9]))]) sz) := by
  refine ent_z (cc := cX6_isFull) (maxL := 1) (by decide +kernel) rfl (Nat.le_of_ble_eq_true rfl) ?_
  intro p_ e_ s_ m_ args_ below_ meth_ c_ A_ Q_ ls B0 ret
  obtain ⟨CF, hA, hKN, hP, hD, hl⟩ := B0
  have hK := hKN.1
  obtain ⟨hx, hb, hml, hown, hts⟩ := id CF
  have hS : va_S A_ s_.heap s_.heap [] := va_S.rf
  have hl : lv_has ls 1 [(0, .ref rd)] := hl
  have hf26 := hts (.fieldLink RX6 26 "DrawerCards$Reader" "length" "I") (by decide +kernel)
  have hinX6 := show ∀ w ∈ u_ws RX6 TX6 10, w ∈ wsX6_isFull from by decide +kernel
  refine lv_aload_n hx hb dX6_isFull_0 rfl (lv_at hl 0 rfl) ?_
  refine va_get (ci := 5) (v := .int (nI L)) (C := RX6) (T := TX6) (N := 10) hx hb hts hinX6 hown hK hP 0 rfl rfl 3 (by decide) hf26 (fun _ h9 => h9) rfl dX6_isFull_1 ?_
  refine lv_bipush (v := nI 60) hx hb dX6_isFull_4 (by decide) ?_
  refine ltN (tgt := 13) hx hb (by omega) (by decide) dX6_isFull_6 (by decide) (fun c6 => ?_) (fun c6 => ?_)
  · refine lv_iconst (v := nI 0) hx hb dX6_isFull_13 (by decide) ?_
    exact ret _ () _ _ _ _ dX6_isFull_14 rfl (by first | (rw [bI_t c6]; rfl) | (rw [bI_f (by omega)]; rfl)) hP hD hS
  · refine lv_iconst (v := nI 1) hx hb dX6_isFull_9 (by decide) ?_
    refine lv_goto (tgt := 14) hx hb dX6_isFull_10 (by decide) ?_
    exact ret _ () _ _ _ _ dX6_isFull_14 rfl (by first | (rw [bI_t c6]; rfl) | (rw [bI_f (by omega)]; rfl)) hP hD hS
set_option maxHeartbeats 4000000 in
set_option maxRecDepth 100000 in
theorem k_X6_append (l : Launch) (D : va_G) (cy : Nat → ClassId) (sz : Nat) (rd : Nat) (tp : Nat) (kk : Nat) (sa : Nat) (L : Nat) (w4 : Int32) (p : Nat) (w6 : Int32) (w7 : Int32) (w8 : Int32) (w9 : Int32) (f : Nat → Int32) (x : Int32) (hL : L < 60) : Met l yX6_append wsX6_append (rmD 1) (pPre D (TY cy) ([(rd, .inr (5, [.ref tp, .ref kk, .ref sa, .int (nI L), .int w4, .int (nI p), .int w6, .int w7, .int w8, .int w9])), (tp, wInt (cy 0) 60 f)]) sz [.ref rd, .int x]) (pI D (TY cy) ([(rd, .inr (5, [.ref tp, .ref kk, .ref sa, .int (nI L), .int w4, .int (nI p), .int w6, .int w7, .int w8, .int w9])), (tp, wInt (cy 0) 60 f)]) sz (fun g : Nat → Int32 => [(rd, .inr (5, [.ref tp, .ref kk, .ref sa, .int (nI (L + 1)), .int w4, .int (nI p), .int w6, .int w7, .int w8, .int w9])), (tp, wInt (cy 0) 60 g)]) (fun (r_ : Int32) (u : (Nat → Int32)) => r_ = nI (L + 1) ∧ u = upd f L x)) 0 0 (va_A ([(rd, .inr (5, [.ref tp, .ref kk, .ref sa, .int (nI L), .int w4, .int (nI p), .int w6, .int w7, .int w8, .int w9])), (tp, wInt (cy 0) 60 f)]) sz) := by
  refine ent_i (cc := cX6_append) (maxL := 2) (by decide +kernel) rfl (Nat.le_of_ble_eq_true rfl) ?_
  intro p_ e_ s_ m_ args_ below_ meth_ c_ A_ Q_ ls B0 ret
  obtain ⟨CF, hA, hKN, hP, hD, hl⟩ := B0
  have hK := hKN.1
  obtain ⟨hx, hb, hml, hown, hts⟩ := id CF
  have hS : va_S A_ s_.heap s_.heap [] := va_S.rf
  have hl : lv_has ls 2 [(0, .ref rd), (1, .int x)] := hl
  have hf11 := hts (.fieldLink RX6 11 "DrawerCards$Reader" "tape" "[I") (by decide +kernel)
  have hinX6 := show ∀ w ∈ u_ws RX6 TX6 10, w ∈ wsX6_append from by decide +kernel
  have hf26 := hts (.fieldLink RX6 26 "DrawerCards$Reader" "length" "I") (by decide +kernel)
  refine lv_aload_n hx hb dX6_append_0 rfl (lv_at hl 0 rfl) ?_
  refine call_i (wr := [(tp, wInt (cy 0) 60 f)]) (ws' := (fun _ : Unit => [(rd, .inr (5, [.ref tp, .ref kk, .ref sa, .int (nI L), .int w4, .int (nI p), .int w6, .int w7, .int w8, .int w9])), (tp, wInt (cy 0) 60 f)])) (va_runV (As := []) (rest := []) CF (k_X6_isFull l D cy _ rd tp kk sa L w4 p w6 w7 w8 w9 (by first | assumption | omega | decide)) (cwV 0 hts gX6_append_X6_isFull rfl rfl rfl (by decide +kernel) ⟨Nat.le_of_ble_eq_true rfl, Nat.le_of_ble_eq_true rfl⟩) (pre_V hKN hP hD [0] rfl (by decide) 0 5 rfl rfl) rfl rfl hl.1 rfl (lv_room (Nat.le_of_ble_eq_true rfl)) dX6_append_1 ⟨Nat.le_of_ble_eq_true rfl, Nat.le_of_ble_eq_true rfl⟩) hS hA hP hD [0] [1] [1, 0] rfl rfl (by decide) (by decide) (fun _ => rfl) (by decide) (fun r2 u1 H locs hw3 hP hD hS => ?_)
  replace hw3 := hw3.symm; subst hw3
  refine ifneB (tgt := 27) hx hb dX6_append_4 (by decide) (fun c4 => absurd c4 (by omega)) (fun c4 => ?_)
  refine lv_aload_n hx hb dX6_append_7 rfl (lv_at hl 0 rfl) ?_
  refine va_get (ci := 5) (v := .ref tp) (C := RX6) (T := TX6) (N := 10) hx hb hts hinX6 hown hK hP 0 rfl rfl 0 (by decide) hf11 (fun _ h9 => h9) rfl dX6_append_8 ?_
  refine lv_aload_n hx hb dX6_append_11 rfl (lv_at hl 0 rfl) ?_
  refine va_get (ci := 5) (v := .int (nI L)) (C := RX6) (T := TX6) (N := 10) hx hb hts hinX6 hown hK hP 0 rfl rfl 3 (by decide) hf26 (fun _ h9 => h9) rfl dX6_append_12 ?_
  refine lv_iload_n hx hb dX6_append_15 rfl (lv_at hl 1 rfl) ?_
  refine stN (f := f) (ws' := [(rd, .inr (5, [.ref tp, .ref kk, .ref sa, .int (nI L), .int w4, .int (nI p), .int w6, .int w7, .int w8, .int w9])), (tp, wInt (cy 0) 60 (upd f L x))]) hx hb hK hP hD hS 1 rfl (j := L) (by omega) (by decide) dX6_append_16 rfl (fun H locs hP hD hS => ?_)
  refine lv_aload_n hx hb dX6_append_17 rfl (lv_at hl 0 rfl) ?_
  refine lv_dup hx hb dX6_append_18 rfl ?_
  refine va_get (ci := 5) (v := .int (nI L)) (C := RX6) (T := TX6) (N := 10) hx hb hts hinX6 hown hK hP 0 rfl rfl 3 (by decide) hf26 (fun _ h9 => h9) rfl dX6_append_19 ?_
  refine lv_iconst (v := nI 1) hx hb dX6_append_22 (by decide) ?_
  refine adN (k := L + 1) hx hb rfl dX6_append_23 ?_
  refine va_put (ci := 5) (v := .int (nI (L + 1))) (ty := .int) (C := RX6) (T := TX6) (N := 10) hx hb hts hinX6 tyX6 tyX6_ok nmX6 hown hK hP hD hS 0 rfl rfl 3 (by decide) hf26 (fun _ h9 => h9) rfl (by decide +kernel) rfl rfl (Nat.le_of_ble_eq_true rfl) dX6_append_24 (fun H locs hP hD hS => ?_)
  have hP : va_P D vwCl ([(rd, .inr (5, [.ref tp, .ref kk, .ref sa, .int (nI (L + 1)), .int w4, .int (nI p), .int w6, .int w7, .int w8, .int w9])), (tp, wInt (cy 0) 60 (upd f L x))]) H := hP
  have hD : va_D A_ ([(rd, .inr (5, [.ref tp, .ref kk, .ref sa, .int (nI (L + 1)), .int w4, .int (nI p), .int w6, .int w7, .int w8, .int w9])), (tp, wInt (cy 0) 60 (upd f L x))]) := hD
  refine lv_aload_n hx hb dX6_append_27 rfl (lv_at hl 0 rfl) ?_
  refine va_get (ci := 5) (v := .int (nI (L + 1))) (C := RX6) (T := TX6) (N := 10) hx hb hts hinX6 hown hK hP 0 rfl rfl 3 (by decide) hf26 (fun _ h9 => h9) rfl dX6_append_28 ?_
  exact ret _ (upd f L x) _ _ _ _ dX6_append_31 ⟨rfl, rfl⟩ hP hD hS
set_option maxHeartbeats 4000000 in
set_option maxRecDepth 100000 in
theorem k_X6_isFigure (l : Launch) (D : va_G) (cy : Nat → ClassId) (sz : Nat) (x : Int32)  : Met l yX6_isFigure wsX6_isFigure (rmD 0) (pPre D (TY cy) ([]) sz [.int x]) (pI D (TY cy) ([]) sz (fun _ : Unit => []) (fun (r_ : Int32) (_ : Unit) => r_ = bI (isFig x))) 0 0 (va_A ([]) sz) := by
  refine ent_z (cc := cX6_isFigure) (maxL := 1) (by decide +kernel) rfl (Nat.le_of_ble_eq_true rfl) ?_
  intro p_ e_ s_ m_ args_ below_ meth_ c_ A_ Q_ ls B0 ret
  obtain ⟨CF, hA, hKN, hP, hD, hl⟩ := B0
  have hK := hKN.1
  obtain ⟨hx, hb, hml, hown, hts⟩ := id CF
  have hS : va_S A_ s_.heap s_.heap [] := va_S.rf
  have hl : lv_has ls 1 [(0, .int x)] := hl
  refine lv_iload_n hx hb dX6_isFigure_0 rfl (lv_at hl 0 rfl) ?_
  refine lv_bipush (v := nI 48) hx hb dX6_isFigure_1 (by decide) ?_
  refine lv_icmp_lt (tgt := 16) hx hb dX6_isFigure_3 (by decide) (fun c3 => ?_) (fun c3 => ?_)
  · refine lv_iconst (v := nI 0) hx hb dX6_isFigure_16 (by decide) ?_
    exact ret _ () _ _ _ _ dX6_isFigure_17 rfl (by rw [bI_f (fun z => by first | exact Int32.not_lt.mpr z.1 c3 | exact Int32.not_lt.mpr z.2 c9)]; rfl) hP hD hS
  · refine lv_iload_n hx hb dX6_isFigure_6 rfl (lv_at hl 0 rfl) ?_
    refine lv_bipush (v := nI 57) hx hb dX6_isFigure_7 (by decide) ?_
    refine lv_icmp_gt (tgt := 16) hx hb dX6_isFigure_9 (by decide) (fun c9 => ?_) (fun c9 => ?_)
    · refine lv_iconst (v := nI 0) hx hb dX6_isFigure_16 (by decide) ?_
      exact ret _ () _ _ _ _ dX6_isFigure_17 rfl (by rw [bI_f (fun z => by first | exact Int32.not_lt.mpr z.1 c3 | exact Int32.not_lt.mpr z.2 c9)]; rfl) hP hD hS
    · refine lv_iconst (v := nI 1) hx hb dX6_isFigure_12 (by decide) ?_
      refine lv_goto (tgt := 17) hx hb dX6_isFigure_13 (by decide) ?_
      exact ret _ () _ _ _ _ dX6_isFigure_17 rfl (by rw [bI_t ⟨Int32.not_lt.mp c3, Int32.not_lt.mp c9⟩]; rfl) hP hD hS
set_option maxHeartbeats 4000000 in
set_option maxRecDepth 100000 in
theorem k_X6_takeNumber (l : Launch) (D : va_G) (cy : Nat → ClassId) (sz : Nat) (rd : Nat) (tp : Nat) (kk : Nat) (sa : Nat) (L : Nat) (w4 : Int32) (p : Nat) (w6 : Int32) (w7 : Int32) (w8 : Int32) (w9 : Int32) (f : Nat → Int32) (hL : L ≤ 60) (hp : p < L) (h1 : isFig (f p)) : Met l yX6_takeNumber wsX6_takeNumber (rmD 1) (pPre D (TY cy) ([(rd, .inr (5, [.ref tp, .ref kk, .ref sa, .int (nI L), .int (nI p), .int (nI p), .int w6, .int w7, .int w8, .int w9])), (tp, wInt (cy 0) 60 f)]) sz [.ref rd]) (pV D (TY cy) ([(rd, .inr (5, [.ref tp, .ref kk, .ref sa, .int (nI L), .int (nI p), .int (nI p), .int w6, .int w7, .int w8, .int w9])), (tp, wInt (cy 0) 60 f)]) sz (fun u : Nat × Int32 × Int32 => [(rd, .inr (5, [.ref tp, .ref kk, .ref sa, .int (nI L), .int (nI p), .int (nI u.1), .int u.2.1, .int u.2.2, .int w8, .int w9])), (tp, wInt (cy 0) 60 f)]) (fun (u : Nat × Int32 × Int32) => u = (runE f L (L - p) p, if runE f L (L - p) p - p ≤ 2 then -2 else -3, nmE f L p (L - p) p (nI 0)))) 0 0 (va_A ([(rd, .inr (5, [.ref tp, .ref kk, .ref sa, .int (nI L), .int (nI p), .int (nI p), .int w6, .int w7, .int w8, .int w9])), (tp, wInt (cy 0) 60 f)]) sz) := by
  refine ent_v (cc := cX6_takeNumber) (maxL := 1) (by decide +kernel) rfl (Nat.le_of_ble_eq_true rfl) ?_
  intro p_ e_ s_ m_ args_ below_ meth_ c_ A_ Q_ ls B0 ret
  obtain ⟨CF, hA, hKN, hP, hD, hl⟩ := B0
  have hK := hKN.1
  obtain ⟨hx, hb, hml, hown, hts⟩ := id CF
  have hS : va_S A_ s_.heap s_.heap [] := va_S.rf
  have hl : lv_has ls 1 [(0, .ref rd)] := hl
  have hf54 := hts (.fieldLink RX6 54 "DrawerCards$Reader" "value" "I") (by decide +kernel)
  have hinX6 := show ∀ w ∈ u_ws RX6 TX6 10, w ∈ wsX6_takeNumber from by decide +kernel
  have hf34 := hts (.fieldLink RX6 34 "DrawerCards$Reader" "behind" "I") (by decide +kernel)
  have hf26 := hts (.fieldLink RX6 26 "DrawerCards$Reader" "length" "I") (by decide +kernel)
  have hf98 := hts (.fieldLink RX6 98 "DrawerCards$Reader" "first" "I") (by decide +kernel)
  have hf91 := hts (.fieldLink RX6 91 "DrawerCards$Reader" "token" "I") (by decide +kernel)
  have hf11 := hts (.fieldLink RX6 11 "DrawerCards$Reader" "tape" "[I") (by decide +kernel)
  refine lv_aload_n hx hb dX6_takeNumber_0 rfl (lv_at hl 0 rfl) ?_
  refine lv_iconst (v := nI 0) hx hb dX6_takeNumber_1 (by decide) ?_
  refine va_put (ci := 5) (v := .int (nI 0)) (ty := .int) (C := RX6) (T := TX6) (N := 10) hx hb hts hinX6 tyX6 tyX6_ok nmX6 hown hK hP hD hS 0 rfl rfl 7 (by decide) hf54 (fun _ h9 => h9) rfl (by decide +kernel) rfl rfl (Nat.le_of_ble_eq_true rfl) dX6_takeNumber_2 (fun H locs hP hD hS => ?_)
  have hP : va_P D vwCl ([(rd, .inr (5, [.ref tp, .ref kk, .ref sa, .int (nI L), .int (nI p), .int (nI p), .int w6, .int (nI 0), .int w8, .int w9])), (tp, wInt (cy 0) 60 f)]) H := hP
  have hD : va_D A_ ([(rd, .inr (5, [.ref tp, .ref kk, .ref sa, .int (nI L), .int (nI p), .int (nI p), .int w6, .int (nI 0), .int w8, .int w9])), (tp, wInt (cy 0) 60 f)]) := hD
  have lp5 : ∀ f_ : Nat, ∀ (b : Nat) (x : Int32), (L - b) < f_ → (p ≤ b) → (b ≤ L) → (runE f L (L - p) p = runE f L (L - b) b) → (nmE f L p (L - p) p (nI 0) = nmE f L p (L - b) b x) → ∀ (H : Heap) (locs : List Loc), va_P D vwCl ([(rd, .inr (5, [.ref tp, .ref kk, .ref sa, .int (nI L), .int (nI p), .int (nI b), .int w6, .int x, .int w8, .int w9])), (tp, wInt (cy 0) 60 f)]) H → va_D A_ ([(rd, .inr (5, [.ref tp, .ref kk, .ref sa, .int (nI L), .int (nI p), .int (nI b), .int w6, .int x, .int w8, .int w9])), (tp, wInt (cy 0) 60 f)]) → va_S A_ s_.heap H locs → ∀ ls : Array Slot, lv_has ls 1 [(0, .ref rd)] → W p_ l e_ (rmD 1) s_ m_ args_ below_ meth_ c_ H locs 0 0 Q_ (F0 m_ 5 ls []) := by
    intro f_
    induction f_ with
    | zero => intro b x hm_; exact absurd hm_ (by omega)
    | succ f_ ih5 =>
      intro b x hm_ hb1 hb2 eE eN H locs hP hD hS ls hl
      refine lv_aload_n hx hb dX6_takeNumber_5 rfl (lv_at hl 0 rfl) ?_
      refine va_get (ci := 5) (v := .int (nI b)) (C := RX6) (T := TX6) (N := 10) hx hb hts hinX6 hown hK hP 0 rfl rfl 5 (by decide) hf34 (fun _ h9 => h9) rfl dX6_takeNumber_6 ?_
      refine lv_aload_n hx hb dX6_takeNumber_9 rfl (lv_at hl 0 rfl) ?_
      refine va_get (ci := 5) (v := .int (nI L)) (C := RX6) (T := TX6) (N := 10) hx hb hts hinX6 hown hK hP 0 rfl rfl 3 (by decide) hf26 (fun _ h9 => h9) rfl dX6_takeNumber_10 ?_
      refine geN (tgt := 81) hx hb (by omega) (by omega) dX6_takeNumber_13 (by decide) (fun c13 => ?_) (fun c13 => ?_)
      · refine lv_aload_n hx hb dX6_takeNumber_81 rfl (lv_at hl 0 rfl) ?_
        refine lv_aload_n hx hb dX6_takeNumber_82 rfl (lv_at hl 0 rfl) ?_
        refine va_get (ci := 5) (v := .int (nI b)) (C := RX6) (T := TX6) (N := 10) hx hb hts hinX6 hown hK hP 0 rfl rfl 5 (by decide) hf34 (fun _ h9 => h9) rfl dX6_takeNumber_83 ?_
        refine lv_aload_n hx hb dX6_takeNumber_86 rfl (lv_at hl 0 rfl) ?_
        refine va_get (ci := 5) (v := .int (nI p)) (C := RX6) (T := TX6) (N := 10) hx hb hts hinX6 hown hK hP 0 rfl rfl 4 (by decide) hf98 (fun _ h9 => h9) rfl dX6_takeNumber_87 ?_
        refine suN (k := b - p) hx hb (by omega) dX6_takeNumber_90 ?_
        refine lv_iconst (v := nI 2) hx hb dX6_takeNumber_91 (by decide) ?_
        refine gtN (tgt := 100) hx hb (by omega) (by decide) dX6_takeNumber_92 (by decide) (fun c92 => ?_) (fun c92 => ?_)
        · refine lv_bipush (v := (-3)) hx hb dX6_takeNumber_100 (by decide) ?_
          refine va_put (ci := 5) (v := .int (-3)) (ty := .int) (C := RX6) (T := TX6) (N := 10) hx hb hts hinX6 tyX6 tyX6_ok nmX6 hown hK hP hD hS 0 rfl rfl 6 (by decide) hf91 (fun _ h9 => h9) rfl (by decide +kernel) rfl rfl (Nat.le_of_ble_eq_true rfl) dX6_takeNumber_102 (fun H locs hP hD hS => ?_)
          have hP : va_P D vwCl ([(rd, .inr (5, [.ref tp, .ref kk, .ref sa, .int (nI L), .int (nI p), .int (nI b), .int (-3), .int x, .int w8, .int w9])), (tp, wInt (cy 0) 60 f)]) H := hP
          have hD : va_D A_ ([(rd, .inr (5, [.ref tp, .ref kk, .ref sa, .int (nI L), .int (nI p), .int (nI b), .int (-3), .int x, .int w8, .int w9])), (tp, wInt (cy 0) 60 f)]) := hD
          exact ret (b, (-3), x) _ _ _ _ dX6_takeNumber_105 (by have q9 : ¬ (b < L ∧ isFig (f b)) := (fun z => by first | omega | exact c28 z.2); rw [runE_stop q9] at eE; rw [nmE_stop q9] at eN; rw [eE, eN]; first | (rw [if_pos (by omega)]; done) | (rw [if_neg (by omega)]; done)) hP hD hS
        · refine lv_bipush (v := (-2)) hx hb dX6_takeNumber_95 (by decide) ?_
          refine lv_goto (tgt := 102) hx hb dX6_takeNumber_97 (by decide) ?_
          refine va_put (ci := 5) (v := .int (-2)) (ty := .int) (C := RX6) (T := TX6) (N := 10) hx hb hts hinX6 tyX6 tyX6_ok nmX6 hown hK hP hD hS 0 rfl rfl 6 (by decide) hf91 (fun _ h9 => h9) rfl (by decide +kernel) rfl rfl (Nat.le_of_ble_eq_true rfl) dX6_takeNumber_102 (fun H locs hP hD hS => ?_)
          have hP : va_P D vwCl ([(rd, .inr (5, [.ref tp, .ref kk, .ref sa, .int (nI L), .int (nI p), .int (nI b), .int (-2), .int x, .int w8, .int w9])), (tp, wInt (cy 0) 60 f)]) H := hP
          have hD : va_D A_ ([(rd, .inr (5, [.ref tp, .ref kk, .ref sa, .int (nI L), .int (nI p), .int (nI b), .int (-2), .int x, .int w8, .int w9])), (tp, wInt (cy 0) 60 f)]) := hD
          exact ret (b, (-2), x) _ _ _ _ dX6_takeNumber_105 (by have q9 : ¬ (b < L ∧ isFig (f b)) := (fun z => by first | omega | exact c28 z.2); rw [runE_stop q9] at eE; rw [nmE_stop q9] at eN; rw [eE, eN]; first | (rw [if_pos (by omega)]; done) | (rw [if_neg (by omega)]; done)) hP hD hS
      · refine lv_aload_n hx hb dX6_takeNumber_16 rfl (lv_at hl 0 rfl) ?_
        refine va_get (ci := 5) (v := .ref tp) (C := RX6) (T := TX6) (N := 10) hx hb hts hinX6 hown hK hP 0 rfl rfl 0 (by decide) hf11 (fun _ h9 => h9) rfl dX6_takeNumber_17 ?_
        refine lv_aload_n hx hb dX6_takeNumber_20 rfl (lv_at hl 0 rfl) ?_
        refine va_get (ci := 5) (v := .int (nI b)) (C := RX6) (T := TX6) (N := 10) hx hb hts hinX6 hown hK hP 0 rfl rfl 5 (by decide) hf34 (fun _ h9 => h9) rfl dX6_takeNumber_21 ?_
        refine ldN (f := f) hx hb hK hP 1 rfl (j := b) (by omega) (by decide) dX6_takeNumber_24 ?_
        refine call_i (wr := [(rd, .inr (5, [.ref tp, .ref kk, .ref sa, .int (nI L), .int (nI p), .int (nI b), .int w6, .int x, .int w8, .int w9])), (tp, wInt (cy 0) 60 f)]) (ws' := (fun _ : Unit => [(rd, .inr (5, [.ref tp, .ref kk, .ref sa, .int (nI L), .int (nI p), .int (nI b), .int w6, .int x, .int w8, .int w9])), (tp, wInt (cy 0) 60 f)])) (va_runS (As := [.int (f b)]) (rest := []) CF (k_X6_isFigure l D cy _ (f b) ) (va_cwS 1 hts gX6_takeNumber_X6_isFigure rfl rfl rfl (by decide +kernel) ⟨Nat.le_of_ble_eq_true rfl, Nat.le_of_ble_eq_true rfl⟩) (pre_S hKN hP hD [] rfl (by decide)) rfl rfl hl.1 rfl (lv_room (Nat.le_of_ble_eq_true rfl)) dX6_takeNumber_25 ⟨Nat.le_of_ble_eq_true rfl, Nat.le_of_ble_eq_true rfl⟩) hS hA hP hD [] [0, 1] [0, 1] rfl rfl (by decide) (by decide) (fun _ => rfl) (by decide) (fun r2 u1 H locs hw3 hP hD hS => ?_)
        replace hw3 := hw3.symm; subst hw3
        refine ifeqB (tgt := 81) hx hb dX6_takeNumber_28 (by decide) (fun c28 => ?_) (fun c28 => ?_)
        · replace c28 : ¬ (isFig (f b)) := c28
          refine lv_aload_n hx hb dX6_takeNumber_81 rfl (lv_at hl 0 rfl) ?_
          refine lv_aload_n hx hb dX6_takeNumber_82 rfl (lv_at hl 0 rfl) ?_
          refine va_get (ci := 5) (v := .int (nI b)) (C := RX6) (T := TX6) (N := 10) hx hb hts hinX6 hown hK hP 0 rfl rfl 5 (by decide) hf34 (fun _ h9 => h9) rfl dX6_takeNumber_83 ?_
          refine lv_aload_n hx hb dX6_takeNumber_86 rfl (lv_at hl 0 rfl) ?_
          refine va_get (ci := 5) (v := .int (nI p)) (C := RX6) (T := TX6) (N := 10) hx hb hts hinX6 hown hK hP 0 rfl rfl 4 (by decide) hf98 (fun _ h9 => h9) rfl dX6_takeNumber_87 ?_
          refine suN (k := b - p) hx hb (by omega) dX6_takeNumber_90 ?_
          refine lv_iconst (v := nI 2) hx hb dX6_takeNumber_91 (by decide) ?_
          refine gtN (tgt := 100) hx hb (by omega) (by decide) dX6_takeNumber_92 (by decide) (fun c92 => ?_) (fun c92 => ?_)
          · refine lv_bipush (v := (-3)) hx hb dX6_takeNumber_100 (by decide) ?_
            refine va_put (ci := 5) (v := .int (-3)) (ty := .int) (C := RX6) (T := TX6) (N := 10) hx hb hts hinX6 tyX6 tyX6_ok nmX6 hown hK hP hD hS 0 rfl rfl 6 (by decide) hf91 (fun _ h9 => h9) rfl (by decide +kernel) rfl rfl (Nat.le_of_ble_eq_true rfl) dX6_takeNumber_102 (fun H locs hP hD hS => ?_)
            have hP : va_P D vwCl ([(rd, .inr (5, [.ref tp, .ref kk, .ref sa, .int (nI L), .int (nI p), .int (nI b), .int (-3), .int x, .int w8, .int w9])), (tp, wInt (cy 0) 60 f)]) H := hP
            have hD : va_D A_ ([(rd, .inr (5, [.ref tp, .ref kk, .ref sa, .int (nI L), .int (nI p), .int (nI b), .int (-3), .int x, .int w8, .int w9])), (tp, wInt (cy 0) 60 f)]) := hD
            exact ret (b, (-3), x) _ _ _ _ dX6_takeNumber_105 (by have q9 : ¬ (b < L ∧ isFig (f b)) := (fun z => by first | omega | exact c28 z.2); rw [runE_stop q9] at eE; rw [nmE_stop q9] at eN; rw [eE, eN]; first | (rw [if_pos (by omega)]; done) | (rw [if_neg (by omega)]; done)) hP hD hS
          · refine lv_bipush (v := (-2)) hx hb dX6_takeNumber_95 (by decide) ?_
            refine lv_goto (tgt := 102) hx hb dX6_takeNumber_97 (by decide) ?_
            refine va_put (ci := 5) (v := .int (-2)) (ty := .int) (C := RX6) (T := TX6) (N := 10) hx hb hts hinX6 tyX6 tyX6_ok nmX6 hown hK hP hD hS 0 rfl rfl 6 (by decide) hf91 (fun _ h9 => h9) rfl (by decide +kernel) rfl rfl (Nat.le_of_ble_eq_true rfl) dX6_takeNumber_102 (fun H locs hP hD hS => ?_)
            have hP : va_P D vwCl ([(rd, .inr (5, [.ref tp, .ref kk, .ref sa, .int (nI L), .int (nI p), .int (nI b), .int (-2), .int x, .int w8, .int w9])), (tp, wInt (cy 0) 60 f)]) H := hP
            have hD : va_D A_ ([(rd, .inr (5, [.ref tp, .ref kk, .ref sa, .int (nI L), .int (nI p), .int (nI b), .int (-2), .int x, .int w8, .int w9])), (tp, wInt (cy 0) 60 f)]) := hD
            exact ret (b, (-2), x) _ _ _ _ dX6_takeNumber_105 (by have q9 : ¬ (b < L ∧ isFig (f b)) := (fun z => by first | omega | exact c28 z.2); rw [runE_stop q9] at eE; rw [nmE_stop q9] at eN; rw [eE, eN]; first | (rw [if_pos (by omega)]; done) | (rw [if_neg (by omega)]; done)) hP hD hS
        · replace c28 : (isFig (f b)) := c28
          refine lv_aload_n hx hb dX6_takeNumber_31 rfl (lv_at hl 0 rfl) ?_
          refine va_get (ci := 5) (v := .int (nI b)) (C := RX6) (T := TX6) (N := 10) hx hb hts hinX6 hown hK hP 0 rfl rfl 5 (by decide) hf34 (fun _ h9 => h9) rfl dX6_takeNumber_32 ?_
          refine lv_aload_n hx hb dX6_takeNumber_35 rfl (lv_at hl 0 rfl) ?_
          refine va_get (ci := 5) (v := .int (nI p)) (C := RX6) (T := TX6) (N := 10) hx hb hts hinX6 hown hK hP 0 rfl rfl 4 (by decide) hf98 (fun _ h9 => h9) rfl dX6_takeNumber_36 ?_
          refine suN (k := b - p) hx hb (by omega) dX6_takeNumber_39 ?_
          refine lv_iconst (v := nI 2) hx hb dX6_takeNumber_40 (by decide) ?_
          refine geN (tgt := 68) hx hb (by omega) (by decide) dX6_takeNumber_41 (by decide) (fun c41 => ?_) (fun c41 => ?_)
          · refine lv_aload_n hx hb dX6_takeNumber_68 rfl (lv_at hl 0 rfl) ?_
            refine lv_dup hx hb dX6_takeNumber_69 rfl ?_
            refine va_get (ci := 5) (v := .int (nI b)) (C := RX6) (T := TX6) (N := 10) hx hb hts hinX6 hown hK hP 0 rfl rfl 5 (by decide) hf34 (fun _ h9 => h9) rfl dX6_takeNumber_70 ?_
            refine lv_iconst (v := nI 1) hx hb dX6_takeNumber_73 (by decide) ?_
            refine adN (k := b + 1) hx hb rfl dX6_takeNumber_74 ?_
            refine va_put (ci := 5) (v := .int (nI (b + 1))) (ty := .int) (C := RX6) (T := TX6) (N := 10) hx hb hts hinX6 tyX6 tyX6_ok nmX6 hown hK hP hD hS 0 rfl rfl 5 (by decide) hf34 (fun _ h9 => h9) rfl (by decide +kernel) rfl rfl (Nat.le_of_ble_eq_true rfl) dX6_takeNumber_75 (fun H locs hP hD hS => ?_)
            have hP : va_P D vwCl ([(rd, .inr (5, [.ref tp, .ref kk, .ref sa, .int (nI L), .int (nI p), .int (nI (b + 1)), .int w6, .int x, .int w8, .int w9])), (tp, wInt (cy 0) 60 f)]) H := hP
            have hD : va_D A_ ([(rd, .inr (5, [.ref tp, .ref kk, .ref sa, .int (nI L), .int (nI p), .int (nI (b + 1)), .int w6, .int x, .int w8, .int w9])), (tp, wInt (cy 0) 60 f)]) := hD
            refine lv_goto (tgt := 5) hx hb dX6_takeNumber_78 (by decide) ?_
            exact ih5 (b + 1) x (by omega) (by omega) (by omega) (by rw [eE, runE_at c13 c28]) (by rw [eN, nmE_at c13 c28]; first | (rw [if_pos (show b - p < 2 by omega), Int32.mul_comm]; done) | (rw [if_neg (show ¬ b - p < 2 by omega)]; done)) _ _ hP hD hS ls (lv_sub hl [0] rfl)
          · refine lv_aload_n hx hb dX6_takeNumber_44 rfl (lv_at hl 0 rfl) ?_
            refine lv_aload_n hx hb dX6_takeNumber_45 rfl (lv_at hl 0 rfl) ?_
            refine va_get (ci := 5) (v := .int x) (C := RX6) (T := TX6) (N := 10) hx hb hts hinX6 hown hK hP 0 rfl rfl 7 (by decide) hf54 (fun _ h9 => h9) rfl dX6_takeNumber_46 ?_
            refine lv_bipush (v := nI 10) hx hb dX6_takeNumber_49 (by decide) ?_
            refine lv_imul hx hb dX6_takeNumber_51 ?_
            refine lv_aload_n hx hb dX6_takeNumber_52 rfl (lv_at hl 0 rfl) ?_
            refine va_get (ci := 5) (v := .ref tp) (C := RX6) (T := TX6) (N := 10) hx hb hts hinX6 hown hK hP 0 rfl rfl 0 (by decide) hf11 (fun _ h9 => h9) rfl dX6_takeNumber_53 ?_
            refine lv_aload_n hx hb dX6_takeNumber_56 rfl (lv_at hl 0 rfl) ?_
            refine va_get (ci := 5) (v := .int (nI b)) (C := RX6) (T := TX6) (N := 10) hx hb hts hinX6 hown hK hP 0 rfl rfl 5 (by decide) hf34 (fun _ h9 => h9) rfl dX6_takeNumber_57 ?_
            refine ldN (f := f) hx hb hK hP 1 rfl (j := b) (by omega) (by decide) dX6_takeNumber_60 ?_
            refine lv_iadd hx hb dX6_takeNumber_61 ?_
            refine lv_bipush (v := nI 48) hx hb dX6_takeNumber_62 (by decide) ?_
            refine lv_isub hx hb dX6_takeNumber_64 ?_
            refine va_put (ci := 5) (v := .int (((x * nI 10) + f b) - nI 48)) (ty := .int) (C := RX6) (T := TX6) (N := 10) hx hb hts hinX6 tyX6 tyX6_ok nmX6 hown hK hP hD hS 0 rfl rfl 7 (by decide) hf54 (fun _ h9 => h9) rfl (by decide +kernel) rfl rfl (Nat.le_of_ble_eq_true rfl) dX6_takeNumber_65 (fun H locs hP hD hS => ?_)
            have hP : va_P D vwCl ([(rd, .inr (5, [.ref tp, .ref kk, .ref sa, .int (nI L), .int (nI p), .int (nI b), .int w6, .int (((x * nI 10) + f b) - nI 48), .int w8, .int w9])), (tp, wInt (cy 0) 60 f)]) H := hP
            have hD : va_D A_ ([(rd, .inr (5, [.ref tp, .ref kk, .ref sa, .int (nI L), .int (nI p), .int (nI b), .int w6, .int (((x * nI 10) + f b) - nI 48), .int w8, .int w9])), (tp, wInt (cy 0) 60 f)]) := hD
            refine lv_aload_n hx hb dX6_takeNumber_68 rfl (lv_at hl 0 rfl) ?_
            refine lv_dup hx hb dX6_takeNumber_69 rfl ?_
            refine va_get (ci := 5) (v := .int (nI b)) (C := RX6) (T := TX6) (N := 10) hx hb hts hinX6 hown hK hP 0 rfl rfl 5 (by decide) hf34 (fun _ h9 => h9) rfl dX6_takeNumber_70 ?_
            refine lv_iconst (v := nI 1) hx hb dX6_takeNumber_73 (by decide) ?_
            refine adN (k := b + 1) hx hb rfl dX6_takeNumber_74 ?_
            refine va_put (ci := 5) (v := .int (nI (b + 1))) (ty := .int) (C := RX6) (T := TX6) (N := 10) hx hb hts hinX6 tyX6 tyX6_ok nmX6 hown hK hP hD hS 0 rfl rfl 5 (by decide) hf34 (fun _ h9 => h9) rfl (by decide +kernel) rfl rfl (Nat.le_of_ble_eq_true rfl) dX6_takeNumber_75 (fun H locs hP hD hS => ?_)
            have hP : va_P D vwCl ([(rd, .inr (5, [.ref tp, .ref kk, .ref sa, .int (nI L), .int (nI p), .int (nI (b + 1)), .int w6, .int (((x * nI 10) + f b) - nI 48), .int w8, .int w9])), (tp, wInt (cy 0) 60 f)]) H := hP
            have hD : va_D A_ ([(rd, .inr (5, [.ref tp, .ref kk, .ref sa, .int (nI L), .int (nI p), .int (nI (b + 1)), .int w6, .int (((x * nI 10) + f b) - nI 48), .int w8, .int w9])), (tp, wInt (cy 0) 60 f)]) := hD
            refine lv_goto (tgt := 5) hx hb dX6_takeNumber_78 (by decide) ?_
            exact ih5 (b + 1) (((x * nI 10) + f b) - nI 48) (by omega) (by omega) (by omega) (by rw [eE, runE_at c13 c28]) (by rw [eN, nmE_at c13 c28]; first | (rw [if_pos (show b - p < 2 by omega), Int32.mul_comm]; done) | (rw [if_neg (show ¬ b - p < 2 by omega)]; done)) _ _ hP hD hS ls (lv_sub hl [0] rfl)
  exact lp5 (L - p + 1) p (nI 0) (by omega) (by omega) (by omega) rfl rfl _ _ hP hD hS ls (lv_sub hl [0] rfl)
set_option maxHeartbeats 4000000 in
set_option maxRecDepth 100000 in
theorem k_X6_nextToken (l : Launch) (D : va_G) (cy : Nat → ClassId) (sz : Nat) (rd : Nat) (tp : Nat) (kk : Nat) (sa : Nat) (L : Nat) (w4 : Int32) (p : Nat) (w6 : Int32) (w7 : Int32) (w8 : Int32) (w9 : Int32) (f : Nat → Int32) (hL : L ≤ 60) (hp : p ≤ L) : Met l yX6_nextToken wsX6_nextToken (rmD 2) (pPre D (TY cy) ([(rd, .inr (5, [.ref tp, .ref kk, .ref sa, .int (nI L), .int w4, .int (nI p), .int w6, .int w7, .int w8, .int w9])), (tp, wInt (cy 0) 60 f)]) sz [.ref rd]) (pV D (TY cy) ([(rd, .inr (5, [.ref tp, .ref kk, .ref sa, .int (nI L), .int w4, .int (nI p), .int w6, .int w7, .int w8, .int w9])), (tp, wInt (cy 0) 60 f)]) sz (fun u : Nat × Int32 × Int32 => [(rd, .inr (5, [.ref tp, .ref kk, .ref sa, .int (nI L), .int (nI p), .int (nI u.1), .int u.2.1, .int u.2.2, .int w8, .int w9])), (tp, wInt (cy 0) 60 f)]) (fun (u : Nat × Int32 × Int32) => u = (tokP f L p, cK f L p, vlC f L p w7))) 0 0 (va_A ([(rd, .inr (5, [.ref tp, .ref kk, .ref sa, .int (nI L), .int w4, .int (nI p), .int w6, .int w7, .int w8, .int w9])), (tp, wInt (cy 0) 60 f)]) sz) := by
  refine ent_v (cc := cX6_nextToken) (maxL := 3) (by decide +kernel) rfl (Nat.le_of_ble_eq_true rfl) ?_
  intro p_ e_ s_ m_ args_ below_ meth_ c_ A_ Q_ ls B0 ret
  obtain ⟨CF, hA, hKN, hP, hD, hl⟩ := B0
  have hK := hKN.1
  obtain ⟨hx, hb, hml, hown, hts⟩ := id CF
  have hS : va_S A_ s_.heap s_.heap [] := va_S.rf
  have hl : lv_has ls 3 [(0, .ref rd)] := hl
  have hf34 := hts (.fieldLink RX6 34 "DrawerCards$Reader" "behind" "I") (by decide +kernel)
  have hinX6 := show ∀ w ∈ u_ws RX6 TX6 10, w ∈ wsX6_nextToken from by decide +kernel
  have hf98 := hts (.fieldLink RX6 98 "DrawerCards$Reader" "first" "I") (by decide +kernel)
  have hf26 := hts (.fieldLink RX6 26 "DrawerCards$Reader" "length" "I") (by decide +kernel)
  have hf11 := hts (.fieldLink RX6 11 "DrawerCards$Reader" "tape" "[I") (by decide +kernel)
  have hni94 := hts (.initialized RX11) (by decide +kernel)
  have hns94 := hts (.static yX11_within) (by decide +kernel)
  have hf91 := hts (.fieldLink RX6 91 "DrawerCards$Reader" "token" "I") (by decide +kernel)
  refine lv_aload_n hx hb dX6_nextToken_0 rfl (lv_at hl 0 rfl) ?_
  refine lv_aload_n hx hb dX6_nextToken_1 rfl (lv_at hl 0 rfl) ?_
  refine va_get (ci := 5) (v := .int (nI p)) (C := RX6) (T := TX6) (N := 10) hx hb hts hinX6 hown hK hP 0 rfl rfl 5 (by decide) hf34 (fun _ h9 => h9) rfl dX6_nextToken_2 ?_
  refine va_put (ci := 5) (v := .int (nI p)) (ty := .int) (C := RX6) (T := TX6) (N := 10) hx hb hts hinX6 tyX6 tyX6_ok nmX6 hown hK hP hD hS 0 rfl rfl 4 (by decide) hf98 (fun _ h9 => h9) rfl (by decide +kernel) rfl rfl (Nat.le_of_ble_eq_true rfl) dX6_nextToken_5 (fun H locs hP hD hS => ?_)
  have hP : va_P D vwCl ([(rd, .inr (5, [.ref tp, .ref kk, .ref sa, .int (nI L), .int (nI p), .int (nI p), .int w6, .int w7, .int w8, .int w9])), (tp, wInt (cy 0) 60 f)]) H := hP
  have hD : va_D A_ ([(rd, .inr (5, [.ref tp, .ref kk, .ref sa, .int (nI L), .int (nI p), .int (nI p), .int w6, .int w7, .int w8, .int w9])), (tp, wInt (cy 0) 60 f)]) := hD
  refine lv_aload_n hx hb dX6_nextToken_8 rfl (lv_at hl 0 rfl) ?_
  refine va_get (ci := 5) (v := .int (nI p)) (C := RX6) (T := TX6) (N := 10) hx hb hts hinX6 hown hK hP 0 rfl rfl 4 (by decide) hf98 (fun _ h9 => h9) rfl dX6_nextToken_9 ?_
  refine lv_aload_n hx hb dX6_nextToken_12 rfl (lv_at hl 0 rfl) ?_
  refine va_get (ci := 5) (v := .int (nI L)) (C := RX6) (T := TX6) (N := 10) hx hb hts hinX6 hown hK hP 0 rfl rfl 3 (by decide) hf26 (fun _ h9 => h9) rfl dX6_nextToken_13 ?_
  refine ltN (tgt := 25) hx hb (by omega) (by omega) dX6_nextToken_16 (by decide) (fun c16 => ?_) (fun c16 => ?_)
  · refine lv_aload_n hx hb dX6_nextToken_25 rfl (lv_at hl 0 rfl) ?_
    refine va_get (ci := 5) (v := .ref tp) (C := RX6) (T := TX6) (N := 10) hx hb hts hinX6 hown hK hP 0 rfl rfl 0 (by decide) hf11 (fun _ h9 => h9) rfl dX6_nextToken_26 ?_
    refine lv_aload_n hx hb dX6_nextToken_29 rfl (lv_at hl 0 rfl) ?_
    refine va_get (ci := 5) (v := .int (nI p)) (C := RX6) (T := TX6) (N := 10) hx hb hts hinX6 hown hK hP 0 rfl rfl 4 (by decide) hf98 (fun _ h9 => h9) rfl dX6_nextToken_30 ?_
    refine ldN (f := f) hx hb hK hP 1 rfl (j := p) (by omega) (by decide) dX6_nextToken_33 ?_
    refine lv_istore_n (lv' := [(1, .int (f p)), (0, .ref rd)]) hx hb dX6_nextToken_34 rfl hl (by decide) rfl (fun ls hl => ?_)
    refine lv_iload_n hx hb dX6_nextToken_35 rfl (lv_at hl 0 rfl) ?_
    refine call_i (wr := [(rd, .inr (5, [.ref tp, .ref kk, .ref sa, .int (nI L), .int (nI p), .int (nI p), .int w6, .int w7, .int w8, .int w9])), (tp, wInt (cy 0) 60 f)]) (ws' := (fun _ : Unit => [(rd, .inr (5, [.ref tp, .ref kk, .ref sa, .int (nI L), .int (nI p), .int (nI p), .int w6, .int w7, .int w8, .int w9])), (tp, wInt (cy 0) 60 f)])) (va_runS (As := [.int (f p)]) (rest := []) CF (k_X6_isFigure l D cy _ (f p) ) (va_cwS 1 hts gX6_nextToken_X6_isFigure rfl rfl rfl (by decide +kernel) ⟨Nat.le_of_ble_eq_true rfl, Nat.le_of_ble_eq_true rfl⟩) (pre_S hKN hP hD [] rfl (by decide)) rfl rfl hl.1 rfl (lv_room (Nat.le_of_ble_eq_true rfl)) dX6_nextToken_36 ⟨Nat.le_of_ble_eq_true rfl, Nat.le_of_ble_eq_true rfl⟩) hS hA hP hD [] [0, 1] [0, 1] rfl rfl (by decide) (by decide) (fun _ => rfl) (by decide) (fun r2 u1 H locs hw3 hP hD hS => ?_)
    replace hw3 := hw3.symm; subst hw3
    refine ifeqB (tgt := 47) hx hb dX6_nextToken_39 (by decide) (fun c39 => ?_) (fun c39 => ?_)
    · replace c39 : ¬ (isFig (f p)) := c39
      refine lv_aload_n hx hb dX6_nextToken_47 rfl (lv_at hl 1 rfl) ?_
      refine lv_dup hx hb dX6_nextToken_48 rfl ?_
      refine va_get (ci := 5) (v := .int (nI p)) (C := RX6) (T := TX6) (N := 10) hx hb hts hinX6 hown hK hP 0 rfl rfl 5 (by decide) hf34 (fun _ h9 => h9) rfl dX6_nextToken_49 ?_
      refine lv_iconst (v := nI 1) hx hb dX6_nextToken_52 (by decide) ?_
      refine adN (k := p + 1) hx hb rfl dX6_nextToken_53 ?_
      refine va_put (ci := 5) (v := .int (nI (p + 1))) (ty := .int) (C := RX6) (T := TX6) (N := 10) hx hb hts hinX6 tyX6 tyX6_ok nmX6 hown hK hP hD hS 0 rfl rfl 5 (by decide) hf34 (fun _ h9 => h9) rfl (by decide +kernel) rfl rfl (Nat.le_of_ble_eq_true rfl) dX6_nextToken_54 (fun H locs hP hD hS => ?_)
      have hP : va_P D vwCl ([(rd, .inr (5, [.ref tp, .ref kk, .ref sa, .int (nI L), .int (nI p), .int (nI (p + 1)), .int w6, .int w7, .int w8, .int w9])), (tp, wInt (cy 0) 60 f)]) H := hP
      have hD : va_D A_ ([(rd, .inr (5, [.ref tp, .ref kk, .ref sa, .int (nI L), .int (nI p), .int (nI (p + 1)), .int w6, .int w7, .int w8, .int w9])), (tp, wInt (cy 0) 60 f)]) := hD
      refine lv_iload_n hx hb dX6_nextToken_57 rfl (lv_at hl 0 rfl) ?_
      refine lv_bipush (v := nI 97) hx hb dX6_nextToken_58 (by decide) ?_
      refine lv_bipush (v := nI 122) hx hb dX6_nextToken_60 (by decide) ?_
      refine call_i (wr := [(rd, .inr (5, [.ref tp, .ref kk, .ref sa, .int (nI L), .int (nI p), .int (nI (p + 1)), .int w6, .int w7, .int w8, .int w9])), (tp, wInt (cy 0) 60 f)]) (ws' := (fun _ : Unit => [(rd, .inr (5, [.ref tp, .ref kk, .ref sa, .int (nI L), .int (nI p), .int (nI (p + 1)), .int w6, .int w7, .int w8, .int w9])), (tp, wInt (cy 0) 60 f)])) (va_runSN (As := [.int (f p), .int (nI 97), .int (nI 122)]) (rest := []) CF (k_X11_within l D cy _ (f p) (nI 97) (nI 122) ) ⟨va_cnB (own := "DrawerCards$Reader") (host := "DrawerCards") (index := 94) 3 hts gX6_nextToken_X11_within_n94 rfl rfl rfl (hKN.2.1 _ (by decide +kernel)) hni94 (by decide +kernel) ⟨Nat.le_of_ble_eq_true rfl, Nat.le_of_ble_eq_true rfl⟩, hns94, trivial⟩ (pre_S hKN hP hD [] rfl (by decide)) rfl rfl hl.1 rfl (lv_room (Nat.le_of_ble_eq_true rfl)) dX6_nextToken_62 ⟨Nat.le_of_ble_eq_true rfl, Nat.le_of_ble_eq_true rfl⟩) hS hA hP hD [] [0, 1] [0, 1] rfl rfl (by decide) (by decide) (fun _ => rfl) (by decide) (fun r5 u4 H locs hw6 hP hD hS => ?_)
      replace hw6 := hw6.symm; subst hw6
      refine ifneB (tgt := 80) hx hb dX6_nextToken_65 (by decide) (fun c65 => ?_) (fun c65 => ?_)
      · replace c65 : ((nI 97) ≤ (f p) ∧ (f p) ≤ (nI 122)) := c65
        refine lv_iconst (v := nI 1) hx hb dX6_nextToken_80 (by decide) ?_
        refine lv_goto (tgt := 85) hx hb dX6_nextToken_81 (by decide) ?_
        refine lv_istore_n (lv' := [(2, .int (nI 1)), (1, .int (f p)), (0, .ref rd)]) hx hb dX6_nextToken_85 rfl hl (by decide) rfl (fun ls hl => ?_)
        refine lv_aload_n hx hb dX6_nextToken_86 rfl (lv_at hl 2 rfl) ?_
        refine lv_iload_n hx hb dX6_nextToken_87 rfl (lv_at hl 0 rfl) ?_
        refine lv_if_eq (tgt := 95) hx hb dX6_nextToken_88 (by decide) (fun c88 => absurd c88 (by decide)) (fun c88 => ?_)
        refine lv_iload_n hx hb dX6_nextToken_91 rfl (lv_at hl 1 rfl) ?_
        refine lv_goto (tgt := 97) hx hb dX6_nextToken_92 (by decide) ?_
        refine va_put (ci := 5) (v := .int (f p)) (ty := .int) (C := RX6) (T := TX6) (N := 10) hx hb hts hinX6 tyX6 tyX6_ok nmX6 hown hK hP hD hS 0 rfl rfl 6 (by decide) hf91 (fun _ h9 => h9) rfl (by decide +kernel) rfl rfl (Nat.le_of_ble_eq_true rfl) dX6_nextToken_97 (fun H locs hP hD hS => ?_)
        have hP : va_P D vwCl ([(rd, .inr (5, [.ref tp, .ref kk, .ref sa, .int (nI L), .int (nI p), .int (nI (p + 1)), .int (f p), .int w7, .int w8, .int w9])), (tp, wInt (cy 0) 60 f)]) H := hP
        have hD : va_D A_ ([(rd, .inr (5, [.ref tp, .ref kk, .ref sa, .int (nI L), .int (nI p), .int (nI (p + 1)), .int (f p), .int w7, .int w8, .int w9])), (tp, wInt (cy 0) 60 f)]) := hD
        exact ret ((p + 1), (f p), w7) _ _ _ _ dX6_nextToken_100 (by have t := ck_sgn (f := f) (L := L) (w := w7) (show p ≠ L by omega) c39; rw [if_pos (by first | exact Or.inl c65 | exact Or.inr (Or.inl c71) | exact Or.inr (Or.inr c77))] at t; exact t) hP hD hS
      · replace c65 : ¬ ((nI 97) ≤ (f p) ∧ (f p) ≤ (nI 122)) := c65
        refine lv_iload_n hx hb dX6_nextToken_68 rfl (lv_at hl 0 rfl) ?_
        refine lv_bipush (v := nI 44) hx hb dX6_nextToken_69 (by decide) ?_
        refine lv_icmp_eq (tgt := 80) hx hb dX6_nextToken_71 (by decide) (fun c71 => ?_) (fun c71 => ?_)
        · refine lv_iconst (v := nI 1) hx hb dX6_nextToken_80 (by decide) ?_
          refine lv_goto (tgt := 85) hx hb dX6_nextToken_81 (by decide) ?_
          refine lv_istore_n (lv' := [(2, .int (nI 1)), (1, .int (f p)), (0, .ref rd)]) hx hb dX6_nextToken_85 rfl hl (by decide) rfl (fun ls hl => ?_)
          refine lv_aload_n hx hb dX6_nextToken_86 rfl (lv_at hl 2 rfl) ?_
          refine lv_iload_n hx hb dX6_nextToken_87 rfl (lv_at hl 0 rfl) ?_
          refine lv_if_eq (tgt := 95) hx hb dX6_nextToken_88 (by decide) (fun c88 => absurd c88 (by decide)) (fun c88 => ?_)
          refine lv_iload_n hx hb dX6_nextToken_91 rfl (lv_at hl 1 rfl) ?_
          refine lv_goto (tgt := 97) hx hb dX6_nextToken_92 (by decide) ?_
          refine va_put (ci := 5) (v := .int (f p)) (ty := .int) (C := RX6) (T := TX6) (N := 10) hx hb hts hinX6 tyX6 tyX6_ok nmX6 hown hK hP hD hS 0 rfl rfl 6 (by decide) hf91 (fun _ h9 => h9) rfl (by decide +kernel) rfl rfl (Nat.le_of_ble_eq_true rfl) dX6_nextToken_97 (fun H locs hP hD hS => ?_)
          have hP : va_P D vwCl ([(rd, .inr (5, [.ref tp, .ref kk, .ref sa, .int (nI L), .int (nI p), .int (nI (p + 1)), .int (f p), .int w7, .int w8, .int w9])), (tp, wInt (cy 0) 60 f)]) H := hP
          have hD : va_D A_ ([(rd, .inr (5, [.ref tp, .ref kk, .ref sa, .int (nI L), .int (nI p), .int (nI (p + 1)), .int (f p), .int w7, .int w8, .int w9])), (tp, wInt (cy 0) 60 f)]) := hD
          exact ret ((p + 1), (f p), w7) _ _ _ _ dX6_nextToken_100 (by have t := ck_sgn (f := f) (L := L) (w := w7) (show p ≠ L by omega) c39; rw [if_pos (by first | exact Or.inl c65 | exact Or.inr (Or.inl c71) | exact Or.inr (Or.inr c77))] at t; exact t) hP hD hS
        · refine lv_iload_n hx hb dX6_nextToken_74 rfl (lv_at hl 0 rfl) ?_
          refine lv_bipush (v := nI 59) hx hb dX6_nextToken_75 (by decide) ?_
          refine lv_icmp_ne (tgt := 84) hx hb dX6_nextToken_77 (by decide) (fun c77 => ?_) (fun c77 => ?_)
          · refine lv_iconst (v := nI 0) hx hb dX6_nextToken_84 (by decide) ?_
            refine lv_istore_n (lv' := [(2, .int (nI 0)), (1, .int (f p)), (0, .ref rd)]) hx hb dX6_nextToken_85 rfl hl (by decide) rfl (fun ls hl => ?_)
            refine lv_aload_n hx hb dX6_nextToken_86 rfl (lv_at hl 2 rfl) ?_
            refine lv_iload_n hx hb dX6_nextToken_87 rfl (lv_at hl 0 rfl) ?_
            refine lv_if_eq (tgt := 95) hx hb dX6_nextToken_88 (by decide) (fun c88 => ?_) (fun c88 => absurd c88 (by decide))
            refine lv_bipush (v := (-3)) hx hb dX6_nextToken_95 (by decide) ?_
            refine va_put (ci := 5) (v := .int (-3)) (ty := .int) (C := RX6) (T := TX6) (N := 10) hx hb hts hinX6 tyX6 tyX6_ok nmX6 hown hK hP hD hS 0 rfl rfl 6 (by decide) hf91 (fun _ h9 => h9) rfl (by decide +kernel) rfl rfl (Nat.le_of_ble_eq_true rfl) dX6_nextToken_97 (fun H locs hP hD hS => ?_)
            have hP : va_P D vwCl ([(rd, .inr (5, [.ref tp, .ref kk, .ref sa, .int (nI L), .int (nI p), .int (nI (p + 1)), .int (-3), .int w7, .int w8, .int w9])), (tp, wInt (cy 0) 60 f)]) H := hP
            have hD : va_D A_ ([(rd, .inr (5, [.ref tp, .ref kk, .ref sa, .int (nI L), .int (nI p), .int (nI (p + 1)), .int (-3), .int w7, .int w8, .int w9])), (tp, wInt (cy 0) 60 f)]) := hD
            exact ret ((p + 1), (-3), w7) _ _ _ _ dX6_nextToken_100 (by have t := ck_sgn (f := f) (L := L) (w := w7) (show p ≠ L by omega) c39; rw [if_neg (fun z => z.elim c65 (fun z => z.elim c71 c77))] at t; exact t) hP hD hS
          · refine lv_iconst (v := nI 1) hx hb dX6_nextToken_80 (by decide) ?_
            refine lv_goto (tgt := 85) hx hb dX6_nextToken_81 (by decide) ?_
            refine lv_istore_n (lv' := [(2, .int (nI 1)), (1, .int (f p)), (0, .ref rd)]) hx hb dX6_nextToken_85 rfl hl (by decide) rfl (fun ls hl => ?_)
            refine lv_aload_n hx hb dX6_nextToken_86 rfl (lv_at hl 2 rfl) ?_
            refine lv_iload_n hx hb dX6_nextToken_87 rfl (lv_at hl 0 rfl) ?_
            refine lv_if_eq (tgt := 95) hx hb dX6_nextToken_88 (by decide) (fun c88 => absurd c88 (by decide)) (fun c88 => ?_)
            refine lv_iload_n hx hb dX6_nextToken_91 rfl (lv_at hl 1 rfl) ?_
            refine lv_goto (tgt := 97) hx hb dX6_nextToken_92 (by decide) ?_
            refine va_put (ci := 5) (v := .int (f p)) (ty := .int) (C := RX6) (T := TX6) (N := 10) hx hb hts hinX6 tyX6 tyX6_ok nmX6 hown hK hP hD hS 0 rfl rfl 6 (by decide) hf91 (fun _ h9 => h9) rfl (by decide +kernel) rfl rfl (Nat.le_of_ble_eq_true rfl) dX6_nextToken_97 (fun H locs hP hD hS => ?_)
            have hP : va_P D vwCl ([(rd, .inr (5, [.ref tp, .ref kk, .ref sa, .int (nI L), .int (nI p), .int (nI (p + 1)), .int (f p), .int w7, .int w8, .int w9])), (tp, wInt (cy 0) 60 f)]) H := hP
            have hD : va_D A_ ([(rd, .inr (5, [.ref tp, .ref kk, .ref sa, .int (nI L), .int (nI p), .int (nI (p + 1)), .int (f p), .int w7, .int w8, .int w9])), (tp, wInt (cy 0) 60 f)]) := hD
            exact ret ((p + 1), (f p), w7) _ _ _ _ dX6_nextToken_100 (by have t := ck_sgn (f := f) (L := L) (w := w7) (show p ≠ L by omega) c39; rw [if_pos (by first | exact Or.inl c65 | exact Or.inr (Or.inl c71) | exact Or.inr (Or.inr c77))] at t; exact t) hP hD hS
    · replace c39 : (isFig (f p)) := c39
      refine lv_aload_n hx hb dX6_nextToken_42 rfl (lv_at hl 1 rfl) ?_
      refine call_v (wr := []) (ws' := (fun u7 : Nat × Int32 × Int32 => [(rd, .inr (5, [.ref tp, .ref kk, .ref sa, .int (nI L), .int (nI p), .int (nI (u7.1)), .int u7.2.1, .int u7.2.2, .int w8, .int w9])), (tp, wInt (cy 0) 60 f)])) (va_runV (As := []) (rest := []) CF (k_X6_takeNumber l D cy _ rd tp kk sa L (nI p) p w6 w7 w8 w9 f (by first | assumption | omega | decide) (by first | assumption | omega | decide) c39) (cwV 0 hts gX6_nextToken_X6_takeNumber rfl rfl rfl (by decide +kernel) ⟨Nat.le_of_ble_eq_true rfl, Nat.le_of_ble_eq_true rfl⟩) (pre_V hKN hP hD [0, 1] rfl (by decide) 0 5 rfl rfl) rfl rfl hl.1 rfl (lv_room (Nat.le_of_ble_eq_true rfl)) dX6_nextToken_43 ⟨Nat.le_of_ble_eq_true rfl, Nat.le_of_ble_eq_true rfl⟩) hS hA hP hD [0, 1] [] [0, 1] rfl rfl (by decide) (by decide) (fun _ => rfl) (by decide) (fun u7 H locs hw9 hP hD hS => ?_)
      replace hw9 := hw9.symm; subst hw9
      have hP : va_P D vwCl ([(rd, .inr (5, [.ref tp, .ref kk, .ref sa, .int (nI L), .int (nI p), .int (nI ((runE f L (L - p) p))), .int (if runE f L (L - p) p - p ≤ 2 then -2 else -3), .int (nmE f L p (L - p) p (nI 0)), .int w8, .int w9])), (tp, wInt (cy 0) 60 f)]) H := hP
      have hD : va_D A_ ([(rd, .inr (5, [.ref tp, .ref kk, .ref sa, .int (nI L), .int (nI p), .int (nI ((runE f L (L - p) p))), .int (if runE f L (L - p) p - p ≤ 2 then -2 else -3), .int (nmE f L p (L - p) p (nI 0)), .int w8, .int w9])), (tp, wInt (cy 0) 60 f)]) := hD
      exact ret ((runE f L (L - p) p), (if runE f L (L - p) p - p ≤ 2 then -2 else -3), (nmE f L p (L - p) p (nI 0))) _ _ _ _ dX6_nextToken_46 (ck_fig (by omega) c39) hP hD hS
  · refine lv_aload_n hx hb dX6_nextToken_19 rfl (lv_at hl 0 rfl) ?_
    refine lv_iconst (v := (-1)) hx hb dX6_nextToken_20 (by decide) ?_
    refine va_put (ci := 5) (v := .int (-1)) (ty := .int) (C := RX6) (T := TX6) (N := 10) hx hb hts hinX6 tyX6 tyX6_ok nmX6 hown hK hP hD hS 0 rfl rfl 6 (by decide) hf91 (fun _ h9 => h9) rfl (by decide +kernel) rfl rfl (Nat.le_of_ble_eq_true rfl) dX6_nextToken_21 (fun H locs hP hD hS => ?_)
    have hP : va_P D vwCl ([(rd, .inr (5, [.ref tp, .ref kk, .ref sa, .int (nI L), .int (nI p), .int (nI p), .int (-1), .int w7, .int w8, .int w9])), (tp, wInt (cy 0) 60 f)]) H := hP
    have hD : va_D A_ ([(rd, .inr (5, [.ref tp, .ref kk, .ref sa, .int (nI L), .int (nI p), .int (nI p), .int (-1), .int w7, .int w8, .int w9])), (tp, wInt (cy 0) 60 f)]) := hD
    exact ret (p, (-1), w7) _ _ _ _ dX6_nextToken_24 (ck_end (by omega)) hP hD hS
set_option maxHeartbeats 4000000 in
set_option maxRecDepth 100000 in
theorem k_X6_failWith (l : Launch) (D : va_G) (cy : Nat → ClassId) (sz : Nat) (rd : Nat) (tp : Nat) (kk : Nat) (sa : Nat) (L : Nat) (w4 : Int32) (p : Nat) (w6 : Int32) (w7 : Int32) (w8 : Int32) (w9 : Int32) (k : Nat)  : Met l yX6_failWith wsX6_failWith (rmD 0) (pPre D (TY cy) ([(rd, .inr (5, [.ref tp, .ref kk, .ref sa, .int (nI L), .int w4, .int (nI p), .int w6, .int w7, .int w8, .int w9]))]) sz [.ref rd, .int (nI k)]) (pI D (TY cy) ([(rd, .inr (5, [.ref tp, .ref kk, .ref sa, .int (nI L), .int w4, .int (nI p), .int w6, .int w7, .int w8, .int w9]))]) sz (fun _ : Unit => [(rd, .inr (5, [.ref tp, .ref kk, .ref sa, .int (nI L), .int w4, .int (nI p), .int w6, .int w7, .int (nI k), .int w4]))]) (fun (r_ : Int32) (_ : Unit) => r_ = nI 0)) 0 0 (va_A ([(rd, .inr (5, [.ref tp, .ref kk, .ref sa, .int (nI L), .int w4, .int (nI p), .int w6, .int w7, .int w8, .int w9]))]) sz) := by
  refine ent_z (cc := cX6_failWith) (maxL := 2) (by decide +kernel) rfl (Nat.le_of_ble_eq_true rfl) ?_
  intro p_ e_ s_ m_ args_ below_ meth_ c_ A_ Q_ ls B0 ret
  obtain ⟨CF, hA, hKN, hP, hD, hl⟩ := B0
  have hK := hKN.1
  obtain ⟨hx, hb, hml, hown, hts⟩ := id CF
  have hS : va_S A_ s_.heap s_.heap [] := va_S.rf
  have hl : lv_has ls 2 [(0, .ref rd), (1, .int (nI k))] := hl
  have hf37 := hts (.fieldLink RX6 37 "DrawerCards$Reader" "faultNumber" "I") (by decide +kernel)
  have hinX6 := show ∀ w ∈ u_ws RX6 TX6 10, w ∈ wsX6_failWith from by decide +kernel
  have hf98 := hts (.fieldLink RX6 98 "DrawerCards$Reader" "first" "I") (by decide +kernel)
  have hf101 := hts (.fieldLink RX6 101 "DrawerCards$Reader" "faultPlace" "I") (by decide +kernel)
  refine lv_aload_n hx hb dX6_failWith_0 rfl (lv_at hl 0 rfl) ?_
  refine lv_iload_n hx hb dX6_failWith_1 rfl (lv_at hl 1 rfl) ?_
  refine va_put (ci := 5) (v := .int (nI k)) (ty := .int) (C := RX6) (T := TX6) (N := 10) hx hb hts hinX6 tyX6 tyX6_ok nmX6 hown hK hP hD hS 0 rfl rfl 8 (by decide) hf37 (fun _ h9 => h9) rfl (by decide +kernel) rfl rfl (Nat.le_of_ble_eq_true rfl) dX6_failWith_2 (fun H locs hP hD hS => ?_)
  have hP : va_P D vwCl ([(rd, .inr (5, [.ref tp, .ref kk, .ref sa, .int (nI L), .int w4, .int (nI p), .int w6, .int w7, .int (nI k), .int w9]))]) H := hP
  have hD : va_D A_ ([(rd, .inr (5, [.ref tp, .ref kk, .ref sa, .int (nI L), .int w4, .int (nI p), .int w6, .int w7, .int (nI k), .int w9]))]) := hD
  refine lv_aload_n hx hb dX6_failWith_5 rfl (lv_at hl 0 rfl) ?_
  refine lv_aload_n hx hb dX6_failWith_6 rfl (lv_at hl 0 rfl) ?_
  refine va_get (ci := 5) (v := .int w4) (C := RX6) (T := TX6) (N := 10) hx hb hts hinX6 hown hK hP 0 rfl rfl 4 (by decide) hf98 (fun _ h9 => h9) rfl dX6_failWith_7 ?_
  refine va_put (ci := 5) (v := .int w4) (ty := .int) (C := RX6) (T := TX6) (N := 10) hx hb hts hinX6 tyX6 tyX6_ok nmX6 hown hK hP hD hS 0 rfl rfl 9 (by decide) hf101 (fun _ h9 => h9) rfl (by decide +kernel) rfl rfl (Nat.le_of_ble_eq_true rfl) dX6_failWith_10 (fun H locs hP hD hS => ?_)
  have hP : va_P D vwCl ([(rd, .inr (5, [.ref tp, .ref kk, .ref sa, .int (nI L), .int w4, .int (nI p), .int w6, .int w7, .int (nI k), .int w4]))]) H := hP
  have hD : va_D A_ ([(rd, .inr (5, [.ref tp, .ref kk, .ref sa, .int (nI L), .int w4, .int (nI p), .int w6, .int w7, .int (nI k), .int w4]))]) := hD
  refine lv_iconst (v := nI 0) hx hb dX6_failWith_13 (by decide) ?_
  exact ret _ () _ _ _ _ dX6_failWith_14 rfl rfl hP hD hS
set_option maxHeartbeats 4000000 in
set_option maxRecDepth 100000 in
theorem k_X6_readSign (l : Launch) (D : va_G) (cy : Nat → ClassId) (sz : Nat) (rd : Nat) (tp : Nat) (kk : Nat) (sa : Nat) (L : Nat) (w4 : Int32) (p : Nat) (w6 : Int32) (w7 : Int32) (w8 : Int32) (w9 : Int32) (f : Nat → Int32) (k : Int32) (hL : L ≤ 60) (hp : p ≤ L) (hk1 : k ≠ -1) (hk2 : k ≠ -2) : Met l yX6_readSign wsX6_readSign (rmD 3) (pPre D (TY cy) ([(rd, .inr (5, [.ref tp, .ref kk, .ref sa, .int (nI L), .int w4, .int (nI p), .int w6, .int w7, .int w8, .int w9])), (tp, wInt (cy 0) 60 f)]) sz [.ref rd, .int k]) (pI D (TY cy) ([(rd, .inr (5, [.ref tp, .ref kk, .ref sa, .int (nI L), .int w4, .int (nI p), .int w6, .int w7, .int w8, .int w9])), (tp, wInt (cy 0) 60 f)]) sz (fun u : Nat × Int32 × Int32 × Int32 × Int32 => [(rd, .inr (5, [.ref tp, .ref kk, .ref sa, .int (nI L), .int (nI p), .int (nI u.1), .int u.2.1, .int u.2.2.1, .int u.2.2.2.1, .int u.2.2.2.2])), (tp, wInt (cy 0) 60 f)]) (fun (r_ : Int32) (u : Nat × Int32 × Int32 × Int32 × Int32) => r_ = bI (tokK f L p = k) ∧ u.1 = tokP f L p ∧ True ∧ u.2.2.2.1 = (if tokK f L p = k then w8 else nI 1) ∧ u.2.2.2.2 = if tokK f L p = k then w9 else nI p)) 0 0 (va_A ([(rd, .inr (5, [.ref tp, .ref kk, .ref sa, .int (nI L), .int w4, .int (nI p), .int w6, .int w7, .int w8, .int w9])), (tp, wInt (cy 0) 60 f)]) sz) := by
  refine ent_z (cc := cX6_readSign) (maxL := 2) (by decide +kernel) rfl (Nat.le_of_ble_eq_true rfl) ?_
  intro p_ e_ s_ m_ args_ below_ meth_ c_ A_ Q_ ls B0 ret
  obtain ⟨CF, hA, hKN, hP, hD, hl⟩ := B0
  have hK := hKN.1
  obtain ⟨hx, hb, hml, hown, hts⟩ := id CF
  have hS : va_S A_ s_.heap s_.heap [] := va_S.rf
  have hl : lv_has ls 2 [(0, .ref rd), (1, .int k)] := hl
  have hf91 := hts (.fieldLink RX6 91 "DrawerCards$Reader" "token" "I") (by decide +kernel)
  have hinX6 := show ∀ w ∈ u_ws RX6 TX6 10, w ∈ wsX6_readSign from by decide +kernel
  refine lv_aload_n hx hb dX6_readSign_0 rfl (lv_at hl 0 rfl) ?_
  refine call_v (wr := []) (ws' := (fun u1 : Nat × Int32 × Int32 => [(rd, .inr (5, [.ref tp, .ref kk, .ref sa, .int (nI L), .int (nI p), .int (nI (u1.1)), .int u1.2.1, .int u1.2.2, .int w8, .int w9])), (tp, wInt (cy 0) 60 f)])) (va_runV (As := []) (rest := []) CF (k_X6_nextToken l D cy _ rd tp kk sa L w4 p w6 w7 w8 w9 f (by first | assumption | omega | decide) (by first | assumption | omega | decide)) (cwV 0 hts gX6_readSign_X6_nextToken rfl rfl rfl (by decide +kernel) ⟨Nat.le_of_ble_eq_true rfl, Nat.le_of_ble_eq_true rfl⟩) (pre_V hKN hP hD [0, 1] rfl (by decide) 0 5 rfl rfl) rfl rfl hl.1 rfl (lv_room (Nat.le_of_ble_eq_true rfl)) dX6_readSign_1 ⟨Nat.le_of_ble_eq_true rfl, Nat.le_of_ble_eq_true rfl⟩) hS hA hP hD [0, 1] [] [0, 1] rfl rfl (by decide) (by decide) (fun _ => rfl) (by decide) (fun u1 H locs hw3 hP hD hS => ?_)
  replace hw3 := hw3.symm; subst hw3
  have hP : va_P D vwCl ([(rd, .inr (5, [.ref tp, .ref kk, .ref sa, .int (nI L), .int (nI p), .int (nI ((tokP f L p))), .int (cK f L p), .int (vlC f L p w7), .int w8, .int w9])), (tp, wInt (cy 0) 60 f)]) H := hP
  have hD : va_D A_ ([(rd, .inr (5, [.ref tp, .ref kk, .ref sa, .int (nI L), .int (nI p), .int (nI ((tokP f L p))), .int (cK f L p), .int (vlC f L p w7), .int w8, .int w9])), (tp, wInt (cy 0) 60 f)]) := hD
  refine lv_aload_n hx hb dX6_readSign_4 rfl (lv_at hl 0 rfl) ?_
  refine va_get (ci := 5) (v := .int (cK f L p)) (C := RX6) (T := TX6) (N := 10) hx hb hts hinX6 hown hK hP 0 rfl rfl 6 (by decide) hf91 (fun _ h9 => h9) rfl dX6_readSign_5 ?_
  refine lv_iload_n hx hb dX6_readSign_8 rfl (lv_at hl 1 rfl) ?_
  refine lv_icmp_eq (tgt := 20) hx hb dX6_readSign_9 (by decide) (fun c9 => ?_) (fun c9 => ?_)
  · refine lv_iconst (v := nI 1) hx hb dX6_readSign_20 (by decide) ?_
    refine lv_goto (tgt := 25) hx hb dX6_readSign_21 (by decide) ?_
    exact ret _ ((tokP f L p), (cK f L p), (vlC f L p w7), w8, w9) _ _ _ _ dX6_readSign_25 rfl (by have q8 := cK_sgn f L p hk1 hk2; first | (rw [bI_t (q8.mp c9), if_pos (q8.mp c9), if_pos (q8.mp c9)]; exact ⟨rfl, rfl, trivial, rfl, rfl⟩) | (rw [bI_f (fun z => c9 (q8.mpr z)), if_neg (fun z => c9 (q8.mpr z)), if_neg (fun z => c9 (q8.mpr z))]; exact ⟨rfl, rfl, trivial, rfl, rfl⟩)) hP hD hS
  · refine lv_aload_n hx hb dX6_readSign_12 rfl (lv_at hl 0 rfl) ?_
    refine lv_iconst (v := nI 1) hx hb dX6_readSign_13 (by decide) ?_
    refine call_i (wr := [(tp, wInt (cy 0) 60 f)]) (ws' := (fun _ : Unit => [(rd, .inr (5, [.ref tp, .ref kk, .ref sa, .int (nI L), .int (nI p), .int (nI ((tokP f L p))), .int (cK f L p), .int (vlC f L p w7), .int (nI 1), .int (nI p)])), (tp, wInt (cy 0) 60 f)])) (va_runV (As := [.int (nI 1)]) (rest := []) CF (k_X6_failWith l D cy _ rd tp kk sa L (nI p) (tokP f L p) (cK f L p) (vlC f L p w7) w8 w9 1 ) (cwV 1 hts gX6_readSign_X6_failWith rfl rfl rfl (by decide +kernel) ⟨Nat.le_of_ble_eq_true rfl, Nat.le_of_ble_eq_true rfl⟩) (pre_V hKN hP hD [0] rfl (by decide) 0 5 rfl rfl) rfl rfl hl.1 rfl (lv_room (Nat.le_of_ble_eq_true rfl)) dX6_readSign_14 ⟨Nat.le_of_ble_eq_true rfl, Nat.le_of_ble_eq_true rfl⟩) hS hA hP hD [0] [1] [1, 0] rfl rfl (by decide) (by decide) (fun _ => rfl) (by decide) (fun r5 u4 H locs hw6 hP hD hS => ?_)
    replace hw6 := hw6.symm; subst hw6
    refine lv_if_eq (tgt := 24) hx hb dX6_readSign_17 (by decide) (fun c17 => ?_) (fun c17 => absurd c17 (by decide))
    refine lv_iconst (v := nI 0) hx hb dX6_readSign_24 (by decide) ?_
    exact ret _ ((tokP f L p), (cK f L p), (vlC f L p w7), (nI 1), (nI p)) _ _ _ _ dX6_readSign_25 rfl (by have q8 := cK_sgn f L p hk1 hk2; first | (rw [bI_t (q8.mp c9), if_pos (q8.mp c9), if_pos (q8.mp c9)]; exact ⟨rfl, rfl, trivial, rfl, rfl⟩) | (rw [bI_f (fun z => c9 (q8.mpr z)), if_neg (fun z => c9 (q8.mpr z)), if_neg (fun z => c9 (q8.mpr z))]; exact ⟨rfl, rfl, trivial, rfl, rfl⟩)) hP hD hS
set_option maxHeartbeats 4000000 in
set_option maxRecDepth 100000 in
theorem k_X6_readNumber (l : Launch) (D : va_G) (cy : Nat → ClassId) (sz : Nat) (rd : Nat) (tp : Nat) (kk : Nat) (sa : Nat) (L : Nat) (w4 : Int32) (p : Nat) (w6 : Int32) (w7 : Int32) (w8 : Int32) (w9 : Int32) (f : Nat → Int32) (le : Int32) (mo : Int32) (hL : L ≤ 60) (hp : p ≤ L) : Met l yX6_readNumber wsX6_readNumber (rmD 3) (pPre D (TY cy) ([(rd, .inr (5, [.ref tp, .ref kk, .ref sa, .int (nI L), .int w4, .int (nI p), .int w6, .int w7, .int w8, .int w9])), (tp, wInt (cy 0) 60 f)]) sz [.ref rd, .int le, .int mo]) (pI D (TY cy) ([(rd, .inr (5, [.ref tp, .ref kk, .ref sa, .int (nI L), .int w4, .int (nI p), .int w6, .int w7, .int w8, .int w9])), (tp, wInt (cy 0) 60 f)]) sz (fun u : Nat × Int32 × Int32 × Int32 × Int32 => [(rd, .inr (5, [.ref tp, .ref kk, .ref sa, .int (nI L), .int (nI p), .int (nI u.1), .int u.2.1, .int u.2.2.1, .int u.2.2.2.1, .int u.2.2.2.2])), (tp, wInt (cy 0) 60 f)]) (fun (r_ : Int32) (u : Nat × Int32 × Int32 × Int32 × Int32) => r_ = bI (tokK f L p = -1 ∧ le ≤ tokN f L p ∧ tokN f L p ≤ mo) ∧ u.1 = tokP f L p ∧ (tokK f L p = -1 → u.2.2.1 = tokN f L p) ∧ u.2.2.2.1 = (if ¬ tokK f L p = -1 then nI 1 else if le ≤ tokN f L p ∧ tokN f L p ≤ mo then w8 else nI 2) ∧ u.2.2.2.2 = if (tokK f L p = -1 ∧ le ≤ tokN f L p ∧ tokN f L p ≤ mo) then w9 else nI p)) 0 0 (va_A ([(rd, .inr (5, [.ref tp, .ref kk, .ref sa, .int (nI L), .int w4, .int (nI p), .int w6, .int w7, .int w8, .int w9])), (tp, wInt (cy 0) 60 f)]) sz) := by
  refine ent_z (cc := cX6_readNumber) (maxL := 3) (by decide +kernel) rfl (Nat.le_of_ble_eq_true rfl) ?_
  intro p_ e_ s_ m_ args_ below_ meth_ c_ A_ Q_ ls B0 ret
  obtain ⟨CF, hA, hKN, hP, hD, hl⟩ := B0
  have hK := hKN.1
  obtain ⟨hx, hb, hml, hown, hts⟩ := id CF
  have hS : va_S A_ s_.heap s_.heap [] := va_S.rf
  have hl : lv_has ls 3 [(0, .ref rd), (1, .int le), (2, .int mo)] := hl
  have hf91 := hts (.fieldLink RX6 91 "DrawerCards$Reader" "token" "I") (by decide +kernel)
  have hinX6 := show ∀ w ∈ u_ws RX6 TX6 10, w ∈ wsX6_readNumber from by decide +kernel
  have hf54 := hts (.fieldLink RX6 54 "DrawerCards$Reader" "value" "I") (by decide +kernel)
  have hni94 := hts (.initialized RX11) (by decide +kernel)
  have hns94 := hts (.static yX11_within) (by decide +kernel)
  refine lv_aload_n hx hb dX6_readNumber_0 rfl (lv_at hl 0 rfl) ?_
  refine call_v (wr := []) (ws' := (fun u1 : Nat × Int32 × Int32 => [(rd, .inr (5, [.ref tp, .ref kk, .ref sa, .int (nI L), .int (nI p), .int (nI (u1.1)), .int u1.2.1, .int u1.2.2, .int w8, .int w9])), (tp, wInt (cy 0) 60 f)])) (va_runV (As := []) (rest := []) CF (k_X6_nextToken l D cy _ rd tp kk sa L w4 p w6 w7 w8 w9 f (by first | assumption | omega | decide) (by first | assumption | omega | decide)) (cwV 0 hts gX6_readNumber_X6_nextToken rfl rfl rfl (by decide +kernel) ⟨Nat.le_of_ble_eq_true rfl, Nat.le_of_ble_eq_true rfl⟩) (pre_V hKN hP hD [0, 1] rfl (by decide) 0 5 rfl rfl) rfl rfl hl.1 rfl (lv_room (Nat.le_of_ble_eq_true rfl)) dX6_readNumber_1 ⟨Nat.le_of_ble_eq_true rfl, Nat.le_of_ble_eq_true rfl⟩) hS hA hP hD [0, 1] [] [0, 1] rfl rfl (by decide) (by decide) (fun _ => rfl) (by decide) (fun u1 H locs hw3 hP hD hS => ?_)
  replace hw3 := hw3.symm; subst hw3
  have hP : va_P D vwCl ([(rd, .inr (5, [.ref tp, .ref kk, .ref sa, .int (nI L), .int (nI p), .int (nI ((tokP f L p))), .int (cK f L p), .int (vlC f L p w7), .int w8, .int w9])), (tp, wInt (cy 0) 60 f)]) H := hP
  have hD : va_D A_ ([(rd, .inr (5, [.ref tp, .ref kk, .ref sa, .int (nI L), .int (nI p), .int (nI ((tokP f L p))), .int (cK f L p), .int (vlC f L p w7), .int w8, .int w9])), (tp, wInt (cy 0) 60 f)]) := hD
  refine lv_aload_n hx hb dX6_readNumber_4 rfl (lv_at hl 0 rfl) ?_
  refine va_get (ci := 5) (v := .int (cK f L p)) (C := RX6) (T := TX6) (N := 10) hx hb hts hinX6 hown hK hP 0 rfl rfl 6 (by decide) hf91 (fun _ h9 => h9) rfl dX6_readNumber_5 ?_
  refine lv_bipush (v := (-2)) hx hb dX6_readNumber_8 (by decide) ?_
  refine lv_icmp_eq (tgt := 19) hx hb dX6_readNumber_10 (by decide) (fun c10 => ?_) (fun c10 => ?_)
  · refine lv_aload_n hx hb dX6_readNumber_19 rfl (lv_at hl 0 rfl) ?_
    refine va_get (ci := 5) (v := .int (vlC f L p w7)) (C := RX6) (T := TX6) (N := 10) hx hb hts hinX6 hown hK hP 0 rfl rfl 7 (by decide) hf54 (fun _ h9 => h9) rfl dX6_readNumber_20 ?_
    refine lv_iload_n hx hb dX6_readNumber_23 rfl (lv_at hl 1 rfl) ?_
    refine lv_iload_n hx hb dX6_readNumber_24 rfl (lv_at hl 2 rfl) ?_
    refine call_i (wr := [(rd, .inr (5, [.ref tp, .ref kk, .ref sa, .int (nI L), .int (nI p), .int (nI ((tokP f L p))), .int (cK f L p), .int (vlC f L p w7), .int w8, .int w9])), (tp, wInt (cy 0) 60 f)]) (ws' := (fun _ : Unit => [(rd, .inr (5, [.ref tp, .ref kk, .ref sa, .int (nI L), .int (nI p), .int (nI ((tokP f L p))), .int (cK f L p), .int (vlC f L p w7), .int w8, .int w9])), (tp, wInt (cy 0) 60 f)])) (va_runSN (As := [.int (vlC f L p w7), .int le, .int mo]) (rest := []) CF (k_X11_within l D cy _ (vlC f L p w7) le mo ) ⟨va_cnB (own := "DrawerCards$Reader") (host := "DrawerCards") (index := 94) 3 hts gX6_readNumber_X11_within_n94 rfl rfl rfl (hKN.2.1 _ (by decide +kernel)) hni94 (by decide +kernel) ⟨Nat.le_of_ble_eq_true rfl, Nat.le_of_ble_eq_true rfl⟩, hns94, trivial⟩ (pre_S hKN hP hD [] rfl (by decide)) rfl rfl hl.1 rfl (lv_room (Nat.le_of_ble_eq_true rfl)) dX6_readNumber_25 ⟨Nat.le_of_ble_eq_true rfl, Nat.le_of_ble_eq_true rfl⟩) hS hA hP hD [] [0, 1] [0, 1] rfl rfl (by decide) (by decide) (fun _ => rfl) (by decide) (fun r5 u4 H locs hw6 hP hD hS => ?_)
    replace hw6 := hw6.symm; subst hw6
    refine ifneB (tgt := 39) hx hb dX6_readNumber_28 (by decide) (fun c28 => ?_) (fun c28 => ?_)
    · replace c28 : (le ≤ (vlC f L p w7) ∧ (vlC f L p w7) ≤ mo) := c28
      refine lv_iconst (v := nI 1) hx hb dX6_readNumber_39 (by decide) ?_
      refine lv_goto (tgt := 44) hx hb dX6_readNumber_40 (by decide) ?_
      exact ret _ ((tokP f L p), (cK f L p), (vlC f L p w7), w8, w9) _ _ _ _ dX6_readNumber_44 rfl (by have q8 := (cK_num f L p).mp c10; have q7 := vlC_num (w := w7) q8; rw [q7] at c28; first | (rw [bI_t ⟨q8, c28⟩, if_neg (fun z => z q8), if_pos c28, if_pos ⟨q8, c28⟩]; exact ⟨rfl, rfl, fun _ => q7, rfl, rfl⟩) | (rw [bI_f (fun z => c28 z.2), if_neg (fun z => z q8), if_neg c28, if_neg (fun z => c28 z.2)]; exact ⟨rfl, rfl, fun _ => q7, rfl, rfl⟩)) hP hD hS
    · replace c28 : ¬ (le ≤ (vlC f L p w7) ∧ (vlC f L p w7) ≤ mo) := c28
      refine lv_aload_n hx hb dX6_readNumber_31 rfl (lv_at hl 0 rfl) ?_
      refine lv_iconst (v := nI 2) hx hb dX6_readNumber_32 (by decide) ?_
      refine call_i (wr := [(tp, wInt (cy 0) 60 f)]) (ws' := (fun _ : Unit => [(rd, .inr (5, [.ref tp, .ref kk, .ref sa, .int (nI L), .int (nI p), .int (nI ((tokP f L p))), .int (cK f L p), .int (vlC f L p w7), .int (nI 2), .int (nI p)])), (tp, wInt (cy 0) 60 f)])) (va_runV (As := [.int (nI 2)]) (rest := []) CF (k_X6_failWith l D cy _ rd tp kk sa L (nI p) (tokP f L p) (cK f L p) (vlC f L p w7) w8 w9 2 ) (cwV 1 hts gX6_readNumber_X6_failWith rfl rfl rfl (by decide +kernel) ⟨Nat.le_of_ble_eq_true rfl, Nat.le_of_ble_eq_true rfl⟩) (pre_V hKN hP hD [0] rfl (by decide) 0 5 rfl rfl) rfl rfl hl.1 rfl (lv_room (Nat.le_of_ble_eq_true rfl)) dX6_readNumber_33 ⟨Nat.le_of_ble_eq_true rfl, Nat.le_of_ble_eq_true rfl⟩) hS hA hP hD [0] [1] [1, 0] rfl rfl (by decide) (by decide) (fun _ => rfl) (by decide) (fun r8 u7 H locs hw9 hP hD hS => ?_)
      replace hw9 := hw9.symm; subst hw9
      refine lv_if_eq (tgt := 43) hx hb dX6_readNumber_36 (by decide) (fun c36 => ?_) (fun c36 => absurd c36 (by decide))
      refine lv_iconst (v := nI 0) hx hb dX6_readNumber_43 (by decide) ?_
      exact ret _ ((tokP f L p), (cK f L p), (vlC f L p w7), (nI 2), (nI p)) _ _ _ _ dX6_readNumber_44 rfl (by have q8 := (cK_num f L p).mp c10; have q7 := vlC_num (w := w7) q8; rw [q7] at c28; first | (rw [bI_t ⟨q8, c28⟩, if_neg (fun z => z q8), if_pos c28, if_pos ⟨q8, c28⟩]; exact ⟨rfl, rfl, fun _ => q7, rfl, rfl⟩) | (rw [bI_f (fun z => c28 z.2), if_neg (fun z => z q8), if_neg c28, if_neg (fun z => c28 z.2)]; exact ⟨rfl, rfl, fun _ => q7, rfl, rfl⟩)) hP hD hS
  · refine lv_aload_n hx hb dX6_readNumber_13 rfl (lv_at hl 0 rfl) ?_
    refine lv_iconst (v := nI 1) hx hb dX6_readNumber_14 (by decide) ?_
    refine call_i (wr := [(tp, wInt (cy 0) 60 f)]) (ws' := (fun _ : Unit => [(rd, .inr (5, [.ref tp, .ref kk, .ref sa, .int (nI L), .int (nI p), .int (nI ((tokP f L p))), .int (cK f L p), .int (vlC f L p w7), .int (nI 1), .int (nI p)])), (tp, wInt (cy 0) 60 f)])) (va_runV (As := [.int (nI 1)]) (rest := []) CF (k_X6_failWith l D cy _ rd tp kk sa L (nI p) (tokP f L p) (cK f L p) (vlC f L p w7) w8 w9 1 ) (cwV 1 hts gX6_readNumber_X6_failWith rfl rfl rfl (by decide +kernel) ⟨Nat.le_of_ble_eq_true rfl, Nat.le_of_ble_eq_true rfl⟩) (pre_V hKN hP hD [0] rfl (by decide) 0 5 rfl rfl) rfl rfl hl.1 rfl (lv_room (Nat.le_of_ble_eq_true rfl)) dX6_readNumber_15 ⟨Nat.le_of_ble_eq_true rfl, Nat.le_of_ble_eq_true rfl⟩) hS hA hP hD [0] [1] [1, 0] rfl rfl (by decide) (by decide) (fun _ => rfl) (by decide) (fun r11 u10 H locs hw12 hP hD hS => ?_)
    replace hw12 := hw12.symm; subst hw12
    exact ret _ ((tokP f L p), (cK f L p), (vlC f L p w7), (nI 1), (nI p)) _ _ _ _ dX6_readNumber_18 rfl (by have q8 : ¬ tokK f L p = -1 := (fun z => c10 ((cK_num f L p).mpr z)); rw [bI_f (fun z => q8 z.1), if_pos q8, if_neg (fun z => q8 z.1)]; exact ⟨rfl, rfl, fun z => absurd z q8, rfl, rfl⟩) hP hD hS
set_option maxHeartbeats 4000000 in
set_option maxRecDepth 100000 in
theorem k_X6_sortOfLetter (l : Launch) (D : va_G) (cy : Nat → ClassId) (sz : Nat) (rd : Nat) (tp : Nat) (kk : Nat) (sa : Nat) (L : Nat) (w4 : Int32) (p : Nat) (w6 : Int32) (w7 : Int32) (w8 : Int32) (w9 : Int32) (KF : Nat → Option Nat) (kd : Nat → Nat) (hKF : ∀ k, 1 ≤ k → k ≤ 5 → KF k = some (kd k)) : Met l yX6_sortOfLetter wsX6_sortOfLetter (rmD 1) (pPre D (TY cy) ([(rd, .inr (5, [.ref tp, .ref kk, .ref sa, .int (nI L), .int w4, .int (nI p), .int w6, .int w7, .int w8, .int w9])), (kk, wRef (cy 2) 6 KF), ((kd 1), .inr (3, [])), ((kd 2), .inr (4, [])), ((kd 3), .inr (9, [])), ((kd 4), .inr (6, [])), ((kd 5), .inr (1, []))]) sz [.ref rd]) (pO D (TY cy) ([(rd, .inr (5, [.ref tp, .ref kk, .ref sa, .int (nI L), .int w4, .int (nI p), .int w6, .int w7, .int w8, .int w9])), (kk, wRef (cy 2) 6 KF), ((kd 1), .inr (3, [])), ((kd 2), .inr (4, [])), ((kd 3), .inr (9, [])), ((kd 4), .inr (6, [])), ((kd 5), .inr (1, []))]) sz (fun _ : Unit => [(rd, .inr (5, [.ref tp, .ref kk, .ref sa, .int (nI L), .int w4, .int (nI p), .int w6, .int w7, .int w8, .int w9])), (kk, wRef (cy 2) 6 KF), ((kd 1), .inr (3, [])), ((kd 2), .inr (4, [])), ((kd 3), .inr (9, [])), ((kd 4), .inr (6, [])), ((kd 5), .inr (1, []))]) (fun (r_ : Option Nat) (_ : Unit) => r_ = (srO kd w6))) 0 0 (va_A ([(rd, .inr (5, [.ref tp, .ref kk, .ref sa, .int (nI L), .int w4, .int (nI p), .int w6, .int w7, .int w8, .int w9])), (kk, wRef (cy 2) 6 KF), ((kd 1), .inr (3, [])), ((kd 2), .inr (4, [])), ((kd 3), .inr (9, [])), ((kd 4), .inr (6, [])), ((kd 5), .inr (1, []))]) sz) := by
  refine ent_o (cc := cX6_sortOfLetter) (maxL := 2) (by decide +kernel) rfl (Nat.le_of_ble_eq_true rfl) ?_
  intro p_ e_ s_ m_ args_ below_ meth_ c_ A_ Q_ ls B0 ret
  obtain ⟨CF, hA, hKN, hP, hD, hl⟩ := B0
  have hK := hKN.1
  obtain ⟨hx, hb, hml, hown, hts⟩ := id CF
  have hS : va_S A_ s_.heap s_.heap [] := va_S.rf
  have hl : lv_has ls 2 [(0, .ref rd)] := hl
  have hf22 := hts (.fieldLink RX6 22 "DrawerCards$Reader" "kinds" "[LDrawerCards$Kind;") (by decide +kernel)
  have hinX6 := show ∀ w ∈ u_ws RX6 TX6 10, w ∈ wsX6_sortOfLetter from by decide +kernel
  have hf91 := hts (.fieldLink RX6 91 "DrawerCards$Reader" "token" "I") (by decide +kernel)
  refine lv_iconst (v := nI 1) hx hb dX6_sortOfLetter_0 (by decide) ?_
  refine lv_istore_n (lv' := [(1, .int (nI 1)), (0, .ref rd)]) hx hb dX6_sortOfLetter_1 rfl hl (by decide) rfl (fun ls hl => ?_)
  refine lv_iload_n hx hb dX6_sortOfLetter_2 rfl (lv_at hl 0 rfl) ?_
  refine lv_bipush (v := nI 6) hx hb dX6_sortOfLetter_3 (by decide) ?_
  refine geN (tgt := 37) hx hb (by decide) (by decide) dX6_sortOfLetter_5 (by decide) (fun c5 => absurd c5 (by decide)) (fun c5 => ?_)
  refine lv_aload_n hx hb dX6_sortOfLetter_8 rfl (lv_at hl 1 rfl) ?_
  refine va_get (ci := 5) (v := .ref kk) (C := RX6) (T := TX6) (N := 10) hx hb hts hinX6 hown hK hP 0 rfl rfl 1 (by decide) hf22 (fun _ h9 => h9) rfl dX6_sortOfLetter_9 ?_
  refine lv_iload_n hx hb dX6_sortOfLetter_12 rfl (lv_at hl 0 rfl) ?_
  refine ldR (k := 2) (f := KF) hx hb hK hP 1 rfl rfl (j := 1) (by omega) (by decide) dX6_sortOfLetter_13 ?_
  refine top_q (hKF 1 (by decide) (by decide)) ?_
  refine call_i (wr := [(rd, .inr (5, [.ref tp, .ref kk, .ref sa, .int (nI L), .int w4, .int (nI p), .int w6, .int w7, .int w8, .int w9])), (kk, wRef (cy 2) 6 KF), ((kd 1), .inr (3, [])), ((kd 2), .inr (4, [])), ((kd 3), .inr (9, [])), ((kd 4), .inr (6, [])), ((kd 5), .inr (1, []))]) (ws' := (fun _ : Unit => [(rd, .inr (5, [.ref tp, .ref kk, .ref sa, .int (nI L), .int w4, .int (nI p), .int w6, .int w7, .int w8, .int w9])), (kk, wRef (cy 2) 6 KF), ((kd 1), .inr (3, [])), ((kd 2), .inr (4, [])), ((kd 3), .inr (9, [])), ((kd 4), .inr (6, [])), ((kd 5), .inr (1, []))])) (va_runU (As := []) (rest := []) CF (k_X3_letter l D cy _ (kd 1) ) (va_cwA 0 hts gX6_sortOfLetter_X3_letter_u85X3 rfl rfl rfl (hKN.2.1 _ (by decide +kernel)) (by decide +kernel) ⟨Nat.le_of_ble_eq_true rfl, Nat.le_of_ble_eq_true rfl⟩) (pre_V hKN hP hD [] rfl (by decide) 2 3 rfl rfl) rfl rfl hl.1 rfl (lv_room (Nat.le_of_ble_eq_true rfl)) dX6_sortOfLetter_14 ⟨Nat.le_of_ble_eq_true rfl, Nat.le_of_ble_eq_true rfl⟩) hS hA hP hD [] [0, 1, 2, 3, 4, 5, 6] [0, 1, 2, 3, 4, 5, 6] rfl rfl (by decide) (by decide) (fun _ => rfl) (by decide) (fun r2 u1 H locs hw3 hP hD hS => ?_)
  replace hw3 := hw3.symm; subst hw3
  refine lv_aload_n hx hb dX6_sortOfLetter_17 rfl (lv_at hl 1 rfl) ?_
  refine va_get (ci := 5) (v := .int w6) (C := RX6) (T := TX6) (N := 10) hx hb hts hinX6 hown hK hP 0 rfl rfl 6 (by decide) hf91 (fun _ h9 => h9) rfl dX6_sortOfLetter_18 ?_
  refine lv_icmp_ne (tgt := 31) hx hb dX6_sortOfLetter_21 (by decide) (fun c21_1 => ?_) (fun c21_1 => ?_)
  · refine lv_iinc (v := nI 2) (lv' := [(1, .int (nI 2)), (0, .ref rd)]) hx hb dX6_sortOfLetter_31 hl (k := 0) rfl ((nI_add (1) 1).trans (congrArg nI (by omega))) (by decide) rfl (fun ls hl => ?_)
    refine lv_goto (tgt := 2) hx hb dX6_sortOfLetter_34 (by decide) ?_
    refine lv_iload_n hx hb dX6_sortOfLetter_2 rfl (lv_at hl 0 rfl) ?_
    refine lv_bipush (v := nI 6) hx hb dX6_sortOfLetter_3 (by decide) ?_
    refine geN (tgt := 37) hx hb (by decide) (by decide) dX6_sortOfLetter_5 (by decide) (fun c5 => absurd c5 (by decide)) (fun c5 => ?_)
    refine lv_aload_n hx hb dX6_sortOfLetter_8 rfl (lv_at hl 1 rfl) ?_
    refine va_get (ci := 5) (v := .ref kk) (C := RX6) (T := TX6) (N := 10) hx hb hts hinX6 hown hK hP 0 rfl rfl 1 (by decide) hf22 (fun _ h9 => h9) rfl dX6_sortOfLetter_9 ?_
    refine lv_iload_n hx hb dX6_sortOfLetter_12 rfl (lv_at hl 0 rfl) ?_
    refine ldR (k := 2) (f := KF) hx hb hK hP 1 rfl rfl (j := 2) (by omega) (by decide) dX6_sortOfLetter_13 ?_
    refine top_q (hKF 2 (by decide) (by decide)) ?_
    refine call_i (wr := [(rd, .inr (5, [.ref tp, .ref kk, .ref sa, .int (nI L), .int w4, .int (nI p), .int w6, .int w7, .int w8, .int w9])), (kk, wRef (cy 2) 6 KF), ((kd 1), .inr (3, [])), ((kd 2), .inr (4, [])), ((kd 3), .inr (9, [])), ((kd 4), .inr (6, [])), ((kd 5), .inr (1, []))]) (ws' := (fun _ : Unit => [(rd, .inr (5, [.ref tp, .ref kk, .ref sa, .int (nI L), .int w4, .int (nI p), .int w6, .int w7, .int w8, .int w9])), (kk, wRef (cy 2) 6 KF), ((kd 1), .inr (3, [])), ((kd 2), .inr (4, [])), ((kd 3), .inr (9, [])), ((kd 4), .inr (6, [])), ((kd 5), .inr (1, []))])) (va_runU (As := []) (rest := []) CF (k_X5_letter l D cy _ (kd 2) ) (va_cwA 0 hts gX6_sortOfLetter_X5_letter_u85X5 rfl rfl rfl (hKN.2.1 _ (by decide +kernel)) (by decide +kernel) ⟨Nat.le_of_ble_eq_true rfl, Nat.le_of_ble_eq_true rfl⟩) (pre_V hKN hP hD [] rfl (by decide) 3 4 rfl rfl) rfl rfl hl.1 rfl (lv_room (Nat.le_of_ble_eq_true rfl)) dX6_sortOfLetter_14 ⟨Nat.le_of_ble_eq_true rfl, Nat.le_of_ble_eq_true rfl⟩) hS hA hP hD [] [0, 1, 2, 3, 4, 5, 6] [0, 1, 2, 3, 4, 5, 6] rfl rfl (by decide) (by decide) (fun _ => rfl) (by decide) (fun r5 u4 H locs hw6 hP hD hS => ?_)
    replace hw6 := hw6.symm; subst hw6
    refine lv_aload_n hx hb dX6_sortOfLetter_17 rfl (lv_at hl 1 rfl) ?_
    refine va_get (ci := 5) (v := .int w6) (C := RX6) (T := TX6) (N := 10) hx hb hts hinX6 hown hK hP 0 rfl rfl 6 (by decide) hf91 (fun _ h9 => h9) rfl dX6_sortOfLetter_18 ?_
    refine lv_icmp_ne (tgt := 31) hx hb dX6_sortOfLetter_21 (by decide) (fun c21_2 => ?_) (fun c21_2 => ?_)
    · refine lv_iinc (v := nI 3) (lv' := [(1, .int (nI 3)), (0, .ref rd)]) hx hb dX6_sortOfLetter_31 hl (k := 0) rfl ((nI_add (2) 1).trans (congrArg nI (by omega))) (by decide) rfl (fun ls hl => ?_)
      refine lv_goto (tgt := 2) hx hb dX6_sortOfLetter_34 (by decide) ?_
      refine lv_iload_n hx hb dX6_sortOfLetter_2 rfl (lv_at hl 0 rfl) ?_
      refine lv_bipush (v := nI 6) hx hb dX6_sortOfLetter_3 (by decide) ?_
      refine geN (tgt := 37) hx hb (by decide) (by decide) dX6_sortOfLetter_5 (by decide) (fun c5 => absurd c5 (by decide)) (fun c5 => ?_)
      refine lv_aload_n hx hb dX6_sortOfLetter_8 rfl (lv_at hl 1 rfl) ?_
      refine va_get (ci := 5) (v := .ref kk) (C := RX6) (T := TX6) (N := 10) hx hb hts hinX6 hown hK hP 0 rfl rfl 1 (by decide) hf22 (fun _ h9 => h9) rfl dX6_sortOfLetter_9 ?_
      refine lv_iload_n hx hb dX6_sortOfLetter_12 rfl (lv_at hl 0 rfl) ?_
      refine ldR (k := 2) (f := KF) hx hb hK hP 1 rfl rfl (j := 3) (by omega) (by decide) dX6_sortOfLetter_13 ?_
      refine top_q (hKF 3 (by decide) (by decide)) ?_
      refine call_i (wr := [(rd, .inr (5, [.ref tp, .ref kk, .ref sa, .int (nI L), .int w4, .int (nI p), .int w6, .int w7, .int w8, .int w9])), (kk, wRef (cy 2) 6 KF), ((kd 1), .inr (3, [])), ((kd 2), .inr (4, [])), ((kd 3), .inr (9, [])), ((kd 4), .inr (6, [])), ((kd 5), .inr (1, []))]) (ws' := (fun _ : Unit => [(rd, .inr (5, [.ref tp, .ref kk, .ref sa, .int (nI L), .int w4, .int (nI p), .int w6, .int w7, .int w8, .int w9])), (kk, wRef (cy 2) 6 KF), ((kd 1), .inr (3, [])), ((kd 2), .inr (4, [])), ((kd 3), .inr (9, [])), ((kd 4), .inr (6, [])), ((kd 5), .inr (1, []))])) (va_runU (As := []) (rest := []) CF (k_X10_letter l D cy _ (kd 3) ) (va_cwA 0 hts gX6_sortOfLetter_X10_letter_u85X10 rfl rfl rfl (hKN.2.1 _ (by decide +kernel)) (by decide +kernel) ⟨Nat.le_of_ble_eq_true rfl, Nat.le_of_ble_eq_true rfl⟩) (pre_V hKN hP hD [] rfl (by decide) 4 9 rfl rfl) rfl rfl hl.1 rfl (lv_room (Nat.le_of_ble_eq_true rfl)) dX6_sortOfLetter_14 ⟨Nat.le_of_ble_eq_true rfl, Nat.le_of_ble_eq_true rfl⟩) hS hA hP hD [] [0, 1, 2, 3, 4, 5, 6] [0, 1, 2, 3, 4, 5, 6] rfl rfl (by decide) (by decide) (fun _ => rfl) (by decide) (fun r8 u7 H locs hw9 hP hD hS => ?_)
      replace hw9 := hw9.symm; subst hw9
      refine lv_aload_n hx hb dX6_sortOfLetter_17 rfl (lv_at hl 1 rfl) ?_
      refine va_get (ci := 5) (v := .int w6) (C := RX6) (T := TX6) (N := 10) hx hb hts hinX6 hown hK hP 0 rfl rfl 6 (by decide) hf91 (fun _ h9 => h9) rfl dX6_sortOfLetter_18 ?_
      refine lv_icmp_ne (tgt := 31) hx hb dX6_sortOfLetter_21 (by decide) (fun c21_3 => ?_) (fun c21_3 => ?_)
      · refine lv_iinc (v := nI 4) (lv' := [(1, .int (nI 4)), (0, .ref rd)]) hx hb dX6_sortOfLetter_31 hl (k := 0) rfl ((nI_add (3) 1).trans (congrArg nI (by omega))) (by decide) rfl (fun ls hl => ?_)
        refine lv_goto (tgt := 2) hx hb dX6_sortOfLetter_34 (by decide) ?_
        refine lv_iload_n hx hb dX6_sortOfLetter_2 rfl (lv_at hl 0 rfl) ?_
        refine lv_bipush (v := nI 6) hx hb dX6_sortOfLetter_3 (by decide) ?_
        refine geN (tgt := 37) hx hb (by decide) (by decide) dX6_sortOfLetter_5 (by decide) (fun c5 => absurd c5 (by decide)) (fun c5 => ?_)
        refine lv_aload_n hx hb dX6_sortOfLetter_8 rfl (lv_at hl 1 rfl) ?_
        refine va_get (ci := 5) (v := .ref kk) (C := RX6) (T := TX6) (N := 10) hx hb hts hinX6 hown hK hP 0 rfl rfl 1 (by decide) hf22 (fun _ h9 => h9) rfl dX6_sortOfLetter_9 ?_
        refine lv_iload_n hx hb dX6_sortOfLetter_12 rfl (lv_at hl 0 rfl) ?_
        refine ldR (k := 2) (f := KF) hx hb hK hP 1 rfl rfl (j := 4) (by omega) (by decide) dX6_sortOfLetter_13 ?_
        refine top_q (hKF 4 (by decide) (by decide)) ?_
        refine call_i (wr := [(rd, .inr (5, [.ref tp, .ref kk, .ref sa, .int (nI L), .int w4, .int (nI p), .int w6, .int w7, .int w8, .int w9])), (kk, wRef (cy 2) 6 KF), ((kd 1), .inr (3, [])), ((kd 2), .inr (4, [])), ((kd 3), .inr (9, [])), ((kd 4), .inr (6, [])), ((kd 5), .inr (1, []))]) (ws' := (fun _ : Unit => [(rd, .inr (5, [.ref tp, .ref kk, .ref sa, .int (nI L), .int w4, .int (nI p), .int w6, .int w7, .int w8, .int w9])), (kk, wRef (cy 2) 6 KF), ((kd 1), .inr (3, [])), ((kd 2), .inr (4, [])), ((kd 3), .inr (9, [])), ((kd 4), .inr (6, [])), ((kd 5), .inr (1, []))])) (va_runU (As := []) (rest := []) CF (k_X7_letter l D cy _ (kd 4) ) (va_cwA 0 hts gX6_sortOfLetter_X7_letter_u85X7 rfl rfl rfl (hKN.2.1 _ (by decide +kernel)) (by decide +kernel) ⟨Nat.le_of_ble_eq_true rfl, Nat.le_of_ble_eq_true rfl⟩) (pre_V hKN hP hD [] rfl (by decide) 5 6 rfl rfl) rfl rfl hl.1 rfl (lv_room (Nat.le_of_ble_eq_true rfl)) dX6_sortOfLetter_14 ⟨Nat.le_of_ble_eq_true rfl, Nat.le_of_ble_eq_true rfl⟩) hS hA hP hD [] [0, 1, 2, 3, 4, 5, 6] [0, 1, 2, 3, 4, 5, 6] rfl rfl (by decide) (by decide) (fun _ => rfl) (by decide) (fun r11 u10 H locs hw12 hP hD hS => ?_)
        replace hw12 := hw12.symm; subst hw12
        refine lv_aload_n hx hb dX6_sortOfLetter_17 rfl (lv_at hl 1 rfl) ?_
        refine va_get (ci := 5) (v := .int w6) (C := RX6) (T := TX6) (N := 10) hx hb hts hinX6 hown hK hP 0 rfl rfl 6 (by decide) hf91 (fun _ h9 => h9) rfl dX6_sortOfLetter_18 ?_
        refine lv_icmp_ne (tgt := 31) hx hb dX6_sortOfLetter_21 (by decide) (fun c21_4 => ?_) (fun c21_4 => ?_)
        · refine lv_iinc (v := nI 5) (lv' := [(1, .int (nI 5)), (0, .ref rd)]) hx hb dX6_sortOfLetter_31 hl (k := 0) rfl ((nI_add (4) 1).trans (congrArg nI (by omega))) (by decide) rfl (fun ls hl => ?_)
          refine lv_goto (tgt := 2) hx hb dX6_sortOfLetter_34 (by decide) ?_
          refine lv_iload_n hx hb dX6_sortOfLetter_2 rfl (lv_at hl 0 rfl) ?_
          refine lv_bipush (v := nI 6) hx hb dX6_sortOfLetter_3 (by decide) ?_
          refine geN (tgt := 37) hx hb (by decide) (by decide) dX6_sortOfLetter_5 (by decide) (fun c5 => absurd c5 (by decide)) (fun c5 => ?_)
          refine lv_aload_n hx hb dX6_sortOfLetter_8 rfl (lv_at hl 1 rfl) ?_
          refine va_get (ci := 5) (v := .ref kk) (C := RX6) (T := TX6) (N := 10) hx hb hts hinX6 hown hK hP 0 rfl rfl 1 (by decide) hf22 (fun _ h9 => h9) rfl dX6_sortOfLetter_9 ?_
          refine lv_iload_n hx hb dX6_sortOfLetter_12 rfl (lv_at hl 0 rfl) ?_
          refine ldR (k := 2) (f := KF) hx hb hK hP 1 rfl rfl (j := 5) (by omega) (by decide) dX6_sortOfLetter_13 ?_
          refine top_q (hKF 5 (by decide) (by decide)) ?_
          refine call_i (wr := [(rd, .inr (5, [.ref tp, .ref kk, .ref sa, .int (nI L), .int w4, .int (nI p), .int w6, .int w7, .int w8, .int w9])), (kk, wRef (cy 2) 6 KF), ((kd 1), .inr (3, [])), ((kd 2), .inr (4, [])), ((kd 3), .inr (9, [])), ((kd 4), .inr (6, [])), ((kd 5), .inr (1, []))]) (ws' := (fun _ : Unit => [(rd, .inr (5, [.ref tp, .ref kk, .ref sa, .int (nI L), .int w4, .int (nI p), .int w6, .int w7, .int w8, .int w9])), (kk, wRef (cy 2) 6 KF), ((kd 1), .inr (3, [])), ((kd 2), .inr (4, [])), ((kd 3), .inr (9, [])), ((kd 4), .inr (6, [])), ((kd 5), .inr (1, []))])) (va_runU (As := []) (rest := []) CF (k_X1_letter l D cy _ (kd 5) ) (va_cwA 0 hts gX6_sortOfLetter_X1_letter_u85X1 rfl rfl rfl (hKN.2.1 _ (by decide +kernel)) (by decide +kernel) ⟨Nat.le_of_ble_eq_true rfl, Nat.le_of_ble_eq_true rfl⟩) (pre_V hKN hP hD [] rfl (by decide) 6 1 rfl rfl) rfl rfl hl.1 rfl (lv_room (Nat.le_of_ble_eq_true rfl)) dX6_sortOfLetter_14 ⟨Nat.le_of_ble_eq_true rfl, Nat.le_of_ble_eq_true rfl⟩) hS hA hP hD [] [0, 1, 2, 3, 4, 5, 6] [0, 1, 2, 3, 4, 5, 6] rfl rfl (by decide) (by decide) (fun _ => rfl) (by decide) (fun r14 u13 H locs hw15 hP hD hS => ?_)
          replace hw15 := hw15.symm; subst hw15
          refine lv_aload_n hx hb dX6_sortOfLetter_17 rfl (lv_at hl 1 rfl) ?_
          refine va_get (ci := 5) (v := .int w6) (C := RX6) (T := TX6) (N := 10) hx hb hts hinX6 hown hK hP 0 rfl rfl 6 (by decide) hf91 (fun _ h9 => h9) rfl dX6_sortOfLetter_18 ?_
          refine lv_icmp_ne (tgt := 31) hx hb dX6_sortOfLetter_21 (by decide) (fun c21_5 => ?_) (fun c21_5 => ?_)
          · refine lv_iinc (v := nI 6) (lv' := [(1, .int (nI 6)), (0, .ref rd)]) hx hb dX6_sortOfLetter_31 hl (k := 0) rfl ((nI_add (5) 1).trans (congrArg nI (by omega))) (by decide) rfl (fun ls hl => ?_)
            refine lv_goto (tgt := 2) hx hb dX6_sortOfLetter_34 (by decide) ?_
            refine lv_iload_n hx hb dX6_sortOfLetter_2 rfl (lv_at hl 0 rfl) ?_
            refine lv_bipush (v := nI 6) hx hb dX6_sortOfLetter_3 (by decide) ?_
            refine geN (tgt := 37) hx hb (by decide) (by decide) dX6_sortOfLetter_5 (by decide) (fun c5 => ?_) (fun c5 => absurd c5 (by decide))
            refine lv_null hx hb dX6_sortOfLetter_37 ?_
            exact ret none () _ _ _ _ dX6_sortOfLetter_38 (srO_n (sN_0 c21_1 c21_2 c21_3 c21_4 c21_5)).symm hP hD hS
          · refine lv_aload_n hx hb dX6_sortOfLetter_24 rfl (lv_at hl 1 rfl) ?_
            refine va_get (ci := 5) (v := .ref kk) (C := RX6) (T := TX6) (N := 10) hx hb hts hinX6 hown hK hP 0 rfl rfl 1 (by decide) hf22 (fun _ h9 => h9) rfl dX6_sortOfLetter_25 ?_
            refine lv_iload_n hx hb dX6_sortOfLetter_28 rfl (lv_at hl 0 rfl) ?_
            refine ldR (k := 2) (f := KF) hx hb hK hP 1 rfl rfl (j := 5) (by omega) (by decide) dX6_sortOfLetter_29 ?_
            refine top_q (hKF 5 (by decide) (by decide)) ?_
            exact ret (some (kd 5)) () _ _ _ _ dX6_sortOfLetter_30 (srO_k (k := 5) (by rw [← c21_5]; decide) (by decide)) hP hD hS
        · refine lv_aload_n hx hb dX6_sortOfLetter_24 rfl (lv_at hl 1 rfl) ?_
          refine va_get (ci := 5) (v := .ref kk) (C := RX6) (T := TX6) (N := 10) hx hb hts hinX6 hown hK hP 0 rfl rfl 1 (by decide) hf22 (fun _ h9 => h9) rfl dX6_sortOfLetter_25 ?_
          refine lv_iload_n hx hb dX6_sortOfLetter_28 rfl (lv_at hl 0 rfl) ?_
          refine ldR (k := 2) (f := KF) hx hb hK hP 1 rfl rfl (j := 4) (by omega) (by decide) dX6_sortOfLetter_29 ?_
          refine top_q (hKF 4 (by decide) (by decide)) ?_
          exact ret (some (kd 4)) () _ _ _ _ dX6_sortOfLetter_30 (srO_k (k := 4) (by rw [← c21_4]; decide) (by decide)) hP hD hS
      · refine lv_aload_n hx hb dX6_sortOfLetter_24 rfl (lv_at hl 1 rfl) ?_
        refine va_get (ci := 5) (v := .ref kk) (C := RX6) (T := TX6) (N := 10) hx hb hts hinX6 hown hK hP 0 rfl rfl 1 (by decide) hf22 (fun _ h9 => h9) rfl dX6_sortOfLetter_25 ?_
        refine lv_iload_n hx hb dX6_sortOfLetter_28 rfl (lv_at hl 0 rfl) ?_
        refine ldR (k := 2) (f := KF) hx hb hK hP 1 rfl rfl (j := 3) (by omega) (by decide) dX6_sortOfLetter_29 ?_
        refine top_q (hKF 3 (by decide) (by decide)) ?_
        exact ret (some (kd 3)) () _ _ _ _ dX6_sortOfLetter_30 (srO_k (k := 3) (by rw [← c21_3]; decide) (by decide)) hP hD hS
    · refine lv_aload_n hx hb dX6_sortOfLetter_24 rfl (lv_at hl 1 rfl) ?_
      refine va_get (ci := 5) (v := .ref kk) (C := RX6) (T := TX6) (N := 10) hx hb hts hinX6 hown hK hP 0 rfl rfl 1 (by decide) hf22 (fun _ h9 => h9) rfl dX6_sortOfLetter_25 ?_
      refine lv_iload_n hx hb dX6_sortOfLetter_28 rfl (lv_at hl 0 rfl) ?_
      refine ldR (k := 2) (f := KF) hx hb hK hP 1 rfl rfl (j := 2) (by omega) (by decide) dX6_sortOfLetter_29 ?_
      refine top_q (hKF 2 (by decide) (by decide)) ?_
      exact ret (some (kd 2)) () _ _ _ _ dX6_sortOfLetter_30 (srO_k (k := 2) (by rw [← c21_2]; decide) (by decide)) hP hD hS
  · refine lv_aload_n hx hb dX6_sortOfLetter_24 rfl (lv_at hl 1 rfl) ?_
    refine va_get (ci := 5) (v := .ref kk) (C := RX6) (T := TX6) (N := 10) hx hb hts hinX6 hown hK hP 0 rfl rfl 1 (by decide) hf22 (fun _ h9 => h9) rfl dX6_sortOfLetter_25 ?_
    refine lv_iload_n hx hb dX6_sortOfLetter_28 rfl (lv_at hl 0 rfl) ?_
    refine ldR (k := 2) (f := KF) hx hb hK hP 1 rfl rfl (j := 1) (by omega) (by decide) dX6_sortOfLetter_29 ?_
    refine top_q (hKF 1 (by decide) (by decide)) ?_
    exact ret (some (kd 1)) () _ _ _ _ dX6_sortOfLetter_30 (srO_k (k := 1) (by rw [← c21_1]; decide) (by decide)) hP hD hS
set_option maxHeartbeats 4000000 in
set_option maxRecDepth 100000 in
theorem k_X6_readLaw (l : Launch) (D : va_G) (cy : Nat → ClassId) (sz : Nat) (rd : Nat) (tp : Nat) (kk : Nat) (sa : Nat) (L : Nat) (w4 : Int32) (p : Nat) (w6 : Int32) (w7 : Int32) (w8 : Int32) (w9 : Int32) (f : Nat → Int32) (sb : Nat → Nat) (S : Nat → Option Nat) (t : Nat → Int32) (hL : L ≤ 60) : Met l yX6_readLaw wsX6_readLaw (rmD 4) (pPre D (TY cy) ([(rd, .inr (5, [.ref tp, .ref kk, .ref sa, .int (nI L), .int w4, .int (nI 0), .int w6, .int w7, .int w8, .int w9])), (tp, wInt (cy 0) 60 f), (sa, .inr (8, [.ref (sb 0), .ref (sb 1), .ref (sb 2), .ref (sb 3), .int (t 1), .int (t 2), .int (t 3), .int (t 0)])), ((sb 0), wRef (cy 2) 8 S), ((sb 1), wInt (cy 0) 8 (fun j => t (13 + j))), ((sb 2), wInt (cy 0) 8 (fun j => t (21 + j))), ((sb 3), wInt (cy 0) 8 (fun j => t (29 + j)))]) sz [.ref rd]) (pI D (TY cy) ([(rd, .inr (5, [.ref tp, .ref kk, .ref sa, .int (nI L), .int w4, .int (nI 0), .int w6, .int w7, .int w8, .int w9])), (tp, wInt (cy 0) 60 f), (sa, .inr (8, [.ref (sb 0), .ref (sb 1), .ref (sb 2), .ref (sb 3), .int (t 1), .int (t 2), .int (t 3), .int (t 0)])), ((sb 0), wRef (cy 2) 8 S), ((sb 1), wInt (cy 0) 8 (fun j => t (13 + j))), ((sb 2), wInt (cy 0) 8 (fun j => t (21 + j))), ((sb 3), wInt (cy 0) 8 (fun j => t (29 + j)))]) sz (fun u : Int32 × Nat × Int32 × Int32 × Int32 × Int32 × (Nat → Int32) => [(rd, .inr (5, [.ref tp, .ref kk, .ref sa, .int (nI L), .int u.1, .int (nI u.2.1), .int u.2.2.1, .int u.2.2.2.1, .int u.2.2.2.2.1, .int u.2.2.2.2.2.1])), (tp, wInt (cy 0) 60 f), (sa, .inr (8, [.ref (sb 0), .ref (sb 1), .ref (sb 2), .ref (sb 3), .int (u.2.2.2.2.2.2 1), .int (u.2.2.2.2.2.2 2), .int (u.2.2.2.2.2.2 3), .int (u.2.2.2.2.2.2 0)])), ((sb 0), wRef (cy 2) 8 S), ((sb 1), wInt (cy 0) 8 (fun j => u.2.2.2.2.2.2 (13 + j))), ((sb 2), wInt (cy 0) 8 (fun j => u.2.2.2.2.2.2 (21 + j))), ((sb 3), wInt (cy 0) 8 (fun j => u.2.2.2.2.2.2 (29 + j)))]) (fun (r_ : Int32) (u : Int32 × Nat × Int32 × Int32 × Int32 × Int32 × (Nat → Int32)) => lawQ f L r_ (u.2.1 = lp f L 0 5 ∧ u.2.2.2.2.2.2 = bgS t (tokN f L (lp f L 0 1)) (tokN f L (lp f L 0 3)) ∧ u.2.2.2.2.1 = w8) u.2.2.2.2.1 u.2.2.2.2.2.1)) 0 0 (va_A ([(rd, .inr (5, [.ref tp, .ref kk, .ref sa, .int (nI L), .int w4, .int (nI 0), .int w6, .int w7, .int w8, .int w9])), (tp, wInt (cy 0) 60 f), (sa, .inr (8, [.ref (sb 0), .ref (sb 1), .ref (sb 2), .ref (sb 3), .int (t 1), .int (t 2), .int (t 3), .int (t 0)])), ((sb 0), wRef (cy 2) 8 S), ((sb 1), wInt (cy 0) 8 (fun j => t (13 + j))), ((sb 2), wInt (cy 0) 8 (fun j => t (21 + j))), ((sb 3), wInt (cy 0) 8 (fun j => t (29 + j)))]) sz) := by
  refine ent_z (cc := cX6_readLaw) (maxL := 2) (by decide +kernel) rfl (Nat.le_of_ble_eq_true rfl) ?_
  intro p_ e_ s_ m_ args_ below_ meth_ c_ A_ Q_ ls B0 ret
  obtain ⟨CF, hA, hKN, hP, hD, hl⟩ := B0
  have hK := hKN.1
  obtain ⟨hx, hb, hml, hown, hts⟩ := id CF
  have hS : va_S A_ s_.heap s_.heap [] := va_S.rf
  have hl : lv_has ls 2 [(0, .ref rd)] := hl
  have hf54 := hts (.fieldLink RX6 54 "DrawerCards$Reader" "value" "I") (by decide +kernel)
  have hinX6 := show ∀ w ∈ u_ws RX6 TX6 10, w ∈ wsX6_readLaw from by decide +kernel
  have hf18 := hts (.fieldLink RX6 18 "DrawerCards$Reader" "shelf" "LDrawerCards$Shelf;") (by decide +kernel)
  refine lv_aload_n hx hb dX6_readLaw_0 rfl (lv_at hl 0 rfl) ?_
  refine lv_bipush (v := nI 99) hx hb dX6_readLaw_1 (by decide) ?_
  refine call_i (wr := [(sa, .inr (8, [.ref (sb 0), .ref (sb 1), .ref (sb 2), .ref (sb 3), .int (t 1), .int (t 2), .int (t 3), .int (t 0)])), ((sb 0), wRef (cy 2) 8 S), ((sb 1), wInt (cy 0) 8 (fun j => t (13 + j))), ((sb 2), wInt (cy 0) 8 (fun j => t (21 + j))), ((sb 3), wInt (cy 0) 8 (fun j => t (29 + j)))]) (ws' := (fun u1 : Nat × Int32 × Int32 × Int32 × Int32 => [(rd, .inr (5, [.ref tp, .ref kk, .ref sa, .int (nI L), .int (nI 0), .int (nI (u1.1)), .int u1.2.1, .int u1.2.2.1, .int u1.2.2.2.1, .int u1.2.2.2.2])), (tp, wInt (cy 0) 60 f), (sa, .inr (8, [.ref (sb 0), .ref (sb 1), .ref (sb 2), .ref (sb 3), .int (t 1), .int (t 2), .int (t 3), .int (t 0)])), ((sb 0), wRef (cy 2) 8 S), ((sb 1), wInt (cy 0) 8 (fun j => t (13 + j))), ((sb 2), wInt (cy 0) 8 (fun j => t (21 + j))), ((sb 3), wInt (cy 0) 8 (fun j => t (29 + j)))])) (va_runV (As := [.int (nI 99)]) (rest := []) CF (k_X6_readSign l D cy _ rd tp kk sa L w4 0 w6 w7 w8 w9 f (nI 99) (by first | assumption | omega | decide) (by first | assumption | omega | decide) (by decide) (by decide)) (cwV 1 hts gX6_readLaw_X6_readSign rfl rfl rfl (by decide +kernel) ⟨Nat.le_of_ble_eq_true rfl, Nat.le_of_ble_eq_true rfl⟩) (pre_V hKN hP hD [0, 1] rfl (by decide) 0 5 rfl rfl) rfl rfl hl.1 rfl (lv_room (Nat.le_of_ble_eq_true rfl)) dX6_readLaw_3 ⟨Nat.le_of_ble_eq_true rfl, Nat.le_of_ble_eq_true rfl⟩) hS hA hP hD [0, 1] [2, 3, 4, 5, 6] [5, 6, 0, 1, 2, 3, 4] rfl rfl (by decide) (by decide) (fun _ => rfl) (by decide) (fun r2 u1 H locs hw3 hP hD hS => ?_)
  obtain ⟨hw3a, hw3⟩ := hw3
  replace hw3a := hw3a.symm; subst hw3a
  obtain ⟨q_1, tk_1, vl_1, fn_1, fp_1⟩ := u1
  try dsimp only at hw3
  have le_1 : q_1 ≤ L := (by rw [hw3.1]; exact tokP_le (by first | assumption | exact Nat.zero_le _))
  have hP : va_P D vwCl ([(rd, .inr (5, [.ref tp, .ref kk, .ref sa, .int (nI L), .int (nI 0), .int (nI q_1), .int tk_1, .int vl_1, .int fn_1, .int fp_1])), (tp, wInt (cy 0) 60 f), (sa, .inr (8, [.ref (sb 0), .ref (sb 1), .ref (sb 2), .ref (sb 3), .int (t 1), .int (t 2), .int (t 3), .int (t 0)])), ((sb 0), wRef (cy 2) 8 S), ((sb 1), wInt (cy 0) 8 (fun j => t (13 + j))), ((sb 2), wInt (cy 0) 8 (fun j => t (21 + j))), ((sb 3), wInt (cy 0) 8 (fun j => t (29 + j)))]) H := hP
  have hD : va_D A_ ([(rd, .inr (5, [.ref tp, .ref kk, .ref sa, .int (nI L), .int (nI 0), .int (nI q_1), .int tk_1, .int vl_1, .int fn_1, .int fp_1])), (tp, wInt (cy 0) 60 f), (sa, .inr (8, [.ref (sb 0), .ref (sb 1), .ref (sb 2), .ref (sb 3), .int (t 1), .int (t 2), .int (t 3), .int (t 0)])), ((sb 0), wRef (cy 2) 8 S), ((sb 1), wInt (cy 0) 8 (fun j => t (13 + j))), ((sb 2), wInt (cy 0) 8 (fun j => t (21 + j))), ((sb 3), wInt (cy 0) 8 (fun j => t (29 + j)))]) := hD
  refine ifeqB (tgt := 19) hx hb dX6_readLaw_6 (by decide) (fun c6 => ?_) (fun c6 => ?_)
  · replace c6 : ¬ (tokK f L 0 = (nI 99)) := c6
    refine lv_iconst (v := nI 0) hx hb dX6_readLaw_19 (by decide) ?_
    exact ret _ (nI 0, q_1, tk_1, vl_1, fn_1, fp_1, t) _ _ _ _ dX6_readLaw_20 rfl (lawQ0 c6 ⟨hw3.2.2.1.trans (if_neg c6), hw3.2.2.2.trans (if_neg c6)⟩) hP hD hS
  · replace c6 : (tokK f L 0 = (nI 99)) := c6
    refine lv_aload_n hx hb dX6_readLaw_9 rfl (lv_at hl 0 rfl) ?_
    refine lv_iconst (v := nI 2) hx hb dX6_readLaw_10 (by decide) ?_
    refine lv_bipush (v := nI 6) hx hb dX6_readLaw_11 (by decide) ?_
    refine call_i (wr := [(sa, .inr (8, [.ref (sb 0), .ref (sb 1), .ref (sb 2), .ref (sb 3), .int (t 1), .int (t 2), .int (t 3), .int (t 0)])), ((sb 0), wRef (cy 2) 8 S), ((sb 1), wInt (cy 0) 8 (fun j => t (13 + j))), ((sb 2), wInt (cy 0) 8 (fun j => t (21 + j))), ((sb 3), wInt (cy 0) 8 (fun j => t (29 + j)))]) (ws' := (fun u4 : Nat × Int32 × Int32 × Int32 × Int32 => [(rd, .inr (5, [.ref tp, .ref kk, .ref sa, .int (nI L), .int (nI q_1), .int (nI (u4.1)), .int u4.2.1, .int u4.2.2.1, .int u4.2.2.2.1, .int u4.2.2.2.2])), (tp, wInt (cy 0) 60 f), (sa, .inr (8, [.ref (sb 0), .ref (sb 1), .ref (sb 2), .ref (sb 3), .int (t 1), .int (t 2), .int (t 3), .int (t 0)])), ((sb 0), wRef (cy 2) 8 S), ((sb 1), wInt (cy 0) 8 (fun j => t (13 + j))), ((sb 2), wInt (cy 0) 8 (fun j => t (21 + j))), ((sb 3), wInt (cy 0) 8 (fun j => t (29 + j)))])) (va_runV (As := [.int (nI 2), .int (nI 6)]) (rest := []) CF (k_X6_readNumber l D cy _ rd tp kk sa L (nI 0) q_1 tk_1 vl_1 fn_1 fp_1 f (nI 2) (nI 6) (by first | assumption | omega | decide) (by first | assumption | omega | decide)) (cwV 2 hts gX6_readLaw_X6_readNumber rfl rfl rfl (by decide +kernel) ⟨Nat.le_of_ble_eq_true rfl, Nat.le_of_ble_eq_true rfl⟩) (pre_V hKN hP hD [0, 1] rfl (by decide) 0 5 rfl rfl) rfl rfl hl.1 rfl (lv_room (Nat.le_of_ble_eq_true rfl)) dX6_readLaw_13 ⟨Nat.le_of_ble_eq_true rfl, Nat.le_of_ble_eq_true rfl⟩) hS hA hP hD [0, 1] [2, 3, 4, 5, 6] [5, 6, 0, 1, 2, 3, 4] rfl rfl (by decide) (by decide) (fun _ => rfl) (by decide) (fun r5 u4 H locs hw6 hP hD hS => ?_)
    obtain ⟨hw6a, hw6⟩ := hw6
    replace hw6a := hw6a.symm; subst hw6a
    obtain ⟨q_4, tk_4, vl_4, fn_4, fp_4⟩ := u4
    try dsimp only at hw6
    have le_4 : q_4 ≤ L := (by rw [hw6.1]; exact tokP_le (by first | assumption | exact Nat.zero_le _))
    have hP : va_P D vwCl ([(rd, .inr (5, [.ref tp, .ref kk, .ref sa, .int (nI L), .int (nI q_1), .int (nI q_4), .int tk_4, .int vl_4, .int fn_4, .int fp_4])), (tp, wInt (cy 0) 60 f), (sa, .inr (8, [.ref (sb 0), .ref (sb 1), .ref (sb 2), .ref (sb 3), .int (t 1), .int (t 2), .int (t 3), .int (t 0)])), ((sb 0), wRef (cy 2) 8 S), ((sb 1), wInt (cy 0) 8 (fun j => t (13 + j))), ((sb 2), wInt (cy 0) 8 (fun j => t (21 + j))), ((sb 3), wInt (cy 0) 8 (fun j => t (29 + j)))]) H := hP
    have hD : va_D A_ ([(rd, .inr (5, [.ref tp, .ref kk, .ref sa, .int (nI L), .int (nI q_1), .int (nI q_4), .int tk_4, .int vl_4, .int fn_4, .int fp_4])), (tp, wInt (cy 0) 60 f), (sa, .inr (8, [.ref (sb 0), .ref (sb 1), .ref (sb 2), .ref (sb 3), .int (t 1), .int (t 2), .int (t 3), .int (t 0)])), ((sb 0), wRef (cy 2) 8 S), ((sb 1), wInt (cy 0) 8 (fun j => t (13 + j))), ((sb 2), wInt (cy 0) 8 (fun j => t (21 + j))), ((sb 3), wInt (cy 0) 8 (fun j => t (29 + j)))]) := hD
    refine ifneB (tgt := 21) hx hb dX6_readLaw_16 (by decide) (fun c16 => ?_) (fun c16 => ?_)
    · replace c16 : (tokK f L q_1 = -1 ∧ (nI 2) ≤ tokN f L q_1 ∧ tokN f L q_1 ≤ (nI 6)) := c16
      have ev_4 := hw6.2.1 c16.1
      subst ev_4
      refine lv_aload_n hx hb dX6_readLaw_21 rfl (lv_at hl 0 rfl) ?_
      refine va_get (ci := 5) (v := .int (tokN f L q_1)) (C := RX6) (T := TX6) (N := 10) hx hb hts hinX6 hown hK hP 0 rfl rfl 7 (by decide) hf54 (fun _ h9 => h9) rfl dX6_readLaw_22 ?_
      refine lv_istore_n (lv' := [(1, .int (tokN f L q_1)), (0, .ref rd)]) hx hb dX6_readLaw_25 rfl hl (by decide) rfl (fun ls hl => ?_)
      refine lv_aload_n hx hb dX6_readLaw_26 rfl (lv_at hl 1 rfl) ?_
      refine lv_bipush (v := nI 44) hx hb dX6_readLaw_27 (by decide) ?_
      refine call_i (wr := [(sa, .inr (8, [.ref (sb 0), .ref (sb 1), .ref (sb 2), .ref (sb 3), .int (t 1), .int (t 2), .int (t 3), .int (t 0)])), ((sb 0), wRef (cy 2) 8 S), ((sb 1), wInt (cy 0) 8 (fun j => t (13 + j))), ((sb 2), wInt (cy 0) 8 (fun j => t (21 + j))), ((sb 3), wInt (cy 0) 8 (fun j => t (29 + j)))]) (ws' := (fun u7 : Nat × Int32 × Int32 × Int32 × Int32 => [(rd, .inr (5, [.ref tp, .ref kk, .ref sa, .int (nI L), .int (nI q_4), .int (nI (u7.1)), .int u7.2.1, .int u7.2.2.1, .int u7.2.2.2.1, .int u7.2.2.2.2])), (tp, wInt (cy 0) 60 f), (sa, .inr (8, [.ref (sb 0), .ref (sb 1), .ref (sb 2), .ref (sb 3), .int (t 1), .int (t 2), .int (t 3), .int (t 0)])), ((sb 0), wRef (cy 2) 8 S), ((sb 1), wInt (cy 0) 8 (fun j => t (13 + j))), ((sb 2), wInt (cy 0) 8 (fun j => t (21 + j))), ((sb 3), wInt (cy 0) 8 (fun j => t (29 + j)))])) (va_runV (As := [.int (nI 44)]) (rest := []) CF (k_X6_readSign l D cy _ rd tp kk sa L (nI q_1) q_4 tk_4 (tokN f L q_1) fn_4 fp_4 f (nI 44) (by first | assumption | omega | decide) (by first | assumption | omega | decide) (by decide) (by decide)) (cwV 1 hts gX6_readLaw_X6_readSign rfl rfl rfl (by decide +kernel) ⟨Nat.le_of_ble_eq_true rfl, Nat.le_of_ble_eq_true rfl⟩) (pre_V hKN hP hD [0, 1] rfl (by decide) 0 5 rfl rfl) rfl rfl hl.1 rfl (lv_room (Nat.le_of_ble_eq_true rfl)) dX6_readLaw_29 ⟨Nat.le_of_ble_eq_true rfl, Nat.le_of_ble_eq_true rfl⟩) hS hA hP hD [0, 1] [2, 3, 4, 5, 6] [5, 6, 0, 1, 2, 3, 4] rfl rfl (by decide) (by decide) (fun _ => rfl) (by decide) (fun r8 u7 H locs hw9 hP hD hS => ?_)
      obtain ⟨hw9a, hw9⟩ := hw9
      replace hw9a := hw9a.symm; subst hw9a
      obtain ⟨q_7, tk_7, vl_7, fn_7, fp_7⟩ := u7
      try dsimp only at hw9
      have le_7 : q_7 ≤ L := (by rw [hw9.1]; exact tokP_le (by first | assumption | exact Nat.zero_le _))
      have hP : va_P D vwCl ([(rd, .inr (5, [.ref tp, .ref kk, .ref sa, .int (nI L), .int (nI q_4), .int (nI q_7), .int tk_7, .int vl_7, .int fn_7, .int fp_7])), (tp, wInt (cy 0) 60 f), (sa, .inr (8, [.ref (sb 0), .ref (sb 1), .ref (sb 2), .ref (sb 3), .int (t 1), .int (t 2), .int (t 3), .int (t 0)])), ((sb 0), wRef (cy 2) 8 S), ((sb 1), wInt (cy 0) 8 (fun j => t (13 + j))), ((sb 2), wInt (cy 0) 8 (fun j => t (21 + j))), ((sb 3), wInt (cy 0) 8 (fun j => t (29 + j)))]) H := hP
      have hD : va_D A_ ([(rd, .inr (5, [.ref tp, .ref kk, .ref sa, .int (nI L), .int (nI q_4), .int (nI q_7), .int tk_7, .int vl_7, .int fn_7, .int fp_7])), (tp, wInt (cy 0) 60 f), (sa, .inr (8, [.ref (sb 0), .ref (sb 1), .ref (sb 2), .ref (sb 3), .int (t 1), .int (t 2), .int (t 3), .int (t 0)])), ((sb 0), wRef (cy 2) 8 S), ((sb 1), wInt (cy 0) 8 (fun j => t (13 + j))), ((sb 2), wInt (cy 0) 8 (fun j => t (21 + j))), ((sb 3), wInt (cy 0) 8 (fun j => t (29 + j)))]) := hD
      refine ifeqB (tgt := 45) hx hb dX6_readLaw_32 (by decide) (fun c32 => ?_) (fun c32 => ?_)
      · replace c32 : ¬ (tokK f L q_4 = (nI 44)) := c32
        refine lv_iconst (v := nI 0) hx hb dX6_readLaw_45 (by decide) ?_
        exact ret _ (nI q_4, q_7, tk_7, vl_7, fn_7, fp_7, t) _ _ _ _ dX6_readLaw_46 rfl (by have l1 : q_1 = lp f L 0 1 := hw3.1; have l2 : q_4 = lp f L 0 2 := (by rw [hw6.1, l1]; rfl); have l3 : q_7 = lp f L 0 3 := (by rw [hw9.1, l2]; rfl); subst l1; subst l2; subst l3; exact lawQ2 c6 c16 c32 ⟨hw9.2.2.1.trans (if_neg c32), hw9.2.2.2.trans (if_neg c32)⟩) hP hD hS
      · replace c32 : (tokK f L q_4 = (nI 44)) := c32
        refine lv_aload_n hx hb dX6_readLaw_35 rfl (lv_at hl 1 rfl) ?_
        refine lv_iconst (v := nI 1) hx hb dX6_readLaw_36 (by decide) ?_
        refine lv_bipush (v := nI 8) hx hb dX6_readLaw_37 (by decide) ?_
        refine call_i (wr := [(sa, .inr (8, [.ref (sb 0), .ref (sb 1), .ref (sb 2), .ref (sb 3), .int (t 1), .int (t 2), .int (t 3), .int (t 0)])), ((sb 0), wRef (cy 2) 8 S), ((sb 1), wInt (cy 0) 8 (fun j => t (13 + j))), ((sb 2), wInt (cy 0) 8 (fun j => t (21 + j))), ((sb 3), wInt (cy 0) 8 (fun j => t (29 + j)))]) (ws' := (fun u10 : Nat × Int32 × Int32 × Int32 × Int32 => [(rd, .inr (5, [.ref tp, .ref kk, .ref sa, .int (nI L), .int (nI q_7), .int (nI (u10.1)), .int u10.2.1, .int u10.2.2.1, .int u10.2.2.2.1, .int u10.2.2.2.2])), (tp, wInt (cy 0) 60 f), (sa, .inr (8, [.ref (sb 0), .ref (sb 1), .ref (sb 2), .ref (sb 3), .int (t 1), .int (t 2), .int (t 3), .int (t 0)])), ((sb 0), wRef (cy 2) 8 S), ((sb 1), wInt (cy 0) 8 (fun j => t (13 + j))), ((sb 2), wInt (cy 0) 8 (fun j => t (21 + j))), ((sb 3), wInt (cy 0) 8 (fun j => t (29 + j)))])) (va_runV (As := [.int (nI 1), .int (nI 8)]) (rest := []) CF (k_X6_readNumber l D cy _ rd tp kk sa L (nI q_4) q_7 tk_7 vl_7 fn_7 fp_7 f (nI 1) (nI 8) (by first | assumption | omega | decide) (by first | assumption | omega | decide)) (cwV 2 hts gX6_readLaw_X6_readNumber rfl rfl rfl (by decide +kernel) ⟨Nat.le_of_ble_eq_true rfl, Nat.le_of_ble_eq_true rfl⟩) (pre_V hKN hP hD [0, 1] rfl (by decide) 0 5 rfl rfl) rfl rfl hl.1 rfl (lv_room (Nat.le_of_ble_eq_true rfl)) dX6_readLaw_39 ⟨Nat.le_of_ble_eq_true rfl, Nat.le_of_ble_eq_true rfl⟩) hS hA hP hD [0, 1] [2, 3, 4, 5, 6] [5, 6, 0, 1, 2, 3, 4] rfl rfl (by decide) (by decide) (fun _ => rfl) (by decide) (fun r11 u10 H locs hw12 hP hD hS => ?_)
        obtain ⟨hw12a, hw12⟩ := hw12
        replace hw12a := hw12a.symm; subst hw12a
        obtain ⟨q_10, tk_10, vl_10, fn_10, fp_10⟩ := u10
        try dsimp only at hw12
        have le_10 : q_10 ≤ L := (by rw [hw12.1]; exact tokP_le (by first | assumption | exact Nat.zero_le _))
        have hP : va_P D vwCl ([(rd, .inr (5, [.ref tp, .ref kk, .ref sa, .int (nI L), .int (nI q_7), .int (nI q_10), .int tk_10, .int vl_10, .int fn_10, .int fp_10])), (tp, wInt (cy 0) 60 f), (sa, .inr (8, [.ref (sb 0), .ref (sb 1), .ref (sb 2), .ref (sb 3), .int (t 1), .int (t 2), .int (t 3), .int (t 0)])), ((sb 0), wRef (cy 2) 8 S), ((sb 1), wInt (cy 0) 8 (fun j => t (13 + j))), ((sb 2), wInt (cy 0) 8 (fun j => t (21 + j))), ((sb 3), wInt (cy 0) 8 (fun j => t (29 + j)))]) H := hP
        have hD : va_D A_ ([(rd, .inr (5, [.ref tp, .ref kk, .ref sa, .int (nI L), .int (nI q_7), .int (nI q_10), .int tk_10, .int vl_10, .int fn_10, .int fp_10])), (tp, wInt (cy 0) 60 f), (sa, .inr (8, [.ref (sb 0), .ref (sb 1), .ref (sb 2), .ref (sb 3), .int (t 1), .int (t 2), .int (t 3), .int (t 0)])), ((sb 0), wRef (cy 2) 8 S), ((sb 1), wInt (cy 0) 8 (fun j => t (13 + j))), ((sb 2), wInt (cy 0) 8 (fun j => t (21 + j))), ((sb 3), wInt (cy 0) 8 (fun j => t (29 + j)))]) := hD
        refine ifneB (tgt := 47) hx hb dX6_readLaw_42 (by decide) (fun c42 => ?_) (fun c42 => ?_)
        · replace c42 : (tokK f L q_7 = -1 ∧ (nI 1) ≤ tokN f L q_7 ∧ tokN f L q_7 ≤ (nI 8)) := c42
          have ev_10 := hw12.2.1 c42.1
          subst ev_10
          refine lv_aload_n hx hb dX6_readLaw_47 rfl (lv_at hl 1 rfl) ?_
          refine va_get (ci := 5) (v := .ref sa) (C := RX6) (T := TX6) (N := 10) hx hb hts hinX6 hown hK hP 0 rfl rfl 2 (by decide) hf18 (fun _ h9 => h9) rfl dX6_readLaw_48 ?_
          refine lv_iload_n hx hb dX6_readLaw_51 rfl (lv_at hl 0 rfl) ?_
          refine lv_aload_n hx hb dX6_readLaw_52 rfl (lv_at hl 1 rfl) ?_
          refine va_get (ci := 5) (v := .int (tokN f L q_7)) (C := RX6) (T := TX6) (N := 10) hx hb hts hinX6 hown hK hP 0 rfl rfl 7 (by decide) hf54 (fun _ h9 => h9) rfl dX6_readLaw_53 ?_
          refine call_v (wr := [(rd, .inr (5, [.ref tp, .ref kk, .ref sa, .int (nI L), .int (nI q_7), .int (nI q_10), .int tk_10, .int (tokN f L q_7), .int fn_10, .int fp_10])), (tp, wInt (cy 0) 60 f)]) (ws' := (fun u13 : (Nat → Int32) => [(rd, .inr (5, [.ref tp, .ref kk, .ref sa, .int (nI L), .int (nI q_7), .int (nI q_10), .int tk_10, .int (tokN f L q_7), .int fn_10, .int fp_10])), (tp, wInt (cy 0) 60 f), (sa, .inr (8, [.ref (sb 0), .ref (sb 1), .ref (sb 2), .ref (sb 3), .int (u13 1), .int (u13 2), .int (u13 3), .int (u13 0)])), ((sb 0), wRef (cy 2) 8 S), ((sb 1), wInt (cy 0) 8 (fun j => u13 (13 + j))), ((sb 2), wInt (cy 0) 8 (fun j => u13 (21 + j))), ((sb 3), wInt (cy 0) 8 (fun j => u13 (29 + j)))])) (va_runV (As := [.int (tokN f L q_1), .int (tokN f L q_7)]) (rest := []) CF (k_X9_begin l D cy _ sa sb S t (tokN f L q_1) (tokN f L q_7) ) (cwV 2 hts gX6_readLaw_X9_begin rfl rfl rfl (by decide +kernel) ⟨Nat.le_of_ble_eq_true rfl, Nat.le_of_ble_eq_true rfl⟩) (pre_V hKN hP hD [2, 3, 4, 5, 6] rfl (by decide) 2 8 rfl rfl) rfl rfl hl.1 rfl (lv_room (Nat.le_of_ble_eq_true rfl)) dX6_readLaw_56 ⟨Nat.le_of_ble_eq_true rfl, Nat.le_of_ble_eq_true rfl⟩) hS hA hP hD [2, 3, 4, 5, 6] [0, 1] [0, 1, 2, 3, 4, 5, 6] rfl rfl (by decide) (by decide) (fun _ => rfl) (by decide) (fun u13 H locs hw15 hP hD hS => ?_)
          replace hw15 := hw15.symm; subst hw15
          have hP : va_P D vwCl ([(rd, .inr (5, [.ref tp, .ref kk, .ref sa, .int (nI L), .int (nI q_7), .int (nI q_10), .int tk_10, .int (tokN f L q_7), .int fn_10, .int fp_10])), (tp, wInt (cy 0) 60 f), (sa, .inr (8, [.ref (sb 0), .ref (sb 1), .ref (sb 2), .ref (sb 3), .int ((bgS t (tokN f L q_1) (tokN f L q_7)) 1), .int ((bgS t (tokN f L q_1) (tokN f L q_7)) 2), .int ((bgS t (tokN f L q_1) (tokN f L q_7)) 3), .int ((bgS t (tokN f L q_1) (tokN f L q_7)) 0)])), ((sb 0), wRef (cy 2) 8 S), ((sb 1), wInt (cy 0) 8 (fun j => (bgS t (tokN f L q_1) (tokN f L q_7)) (13 + j))), ((sb 2), wInt (cy 0) 8 (fun j => (bgS t (tokN f L q_1) (tokN f L q_7)) (21 + j))), ((sb 3), wInt (cy 0) 8 (fun j => (bgS t (tokN f L q_1) (tokN f L q_7)) (29 + j)))]) H := hP
          have hD : va_D A_ ([(rd, .inr (5, [.ref tp, .ref kk, .ref sa, .int (nI L), .int (nI q_7), .int (nI q_10), .int tk_10, .int (tokN f L q_7), .int fn_10, .int fp_10])), (tp, wInt (cy 0) 60 f), (sa, .inr (8, [.ref (sb 0), .ref (sb 1), .ref (sb 2), .ref (sb 3), .int ((bgS t (tokN f L q_1) (tokN f L q_7)) 1), .int ((bgS t (tokN f L q_1) (tokN f L q_7)) 2), .int ((bgS t (tokN f L q_1) (tokN f L q_7)) 3), .int ((bgS t (tokN f L q_1) (tokN f L q_7)) 0)])), ((sb 0), wRef (cy 2) 8 S), ((sb 1), wInt (cy 0) 8 (fun j => (bgS t (tokN f L q_1) (tokN f L q_7)) (13 + j))), ((sb 2), wInt (cy 0) 8 (fun j => (bgS t (tokN f L q_1) (tokN f L q_7)) (21 + j))), ((sb 3), wInt (cy 0) 8 (fun j => (bgS t (tokN f L q_1) (tokN f L q_7)) (29 + j)))]) := hD
          refine lv_aload_n hx hb dX6_readLaw_59 rfl (lv_at hl 1 rfl) ?_
          refine lv_bipush (v := nI 59) hx hb dX6_readLaw_60 (by decide) ?_
          refine call_i (wr := [(sa, .inr (8, [.ref (sb 0), .ref (sb 1), .ref (sb 2), .ref (sb 3), .int ((bgS t (tokN f L q_1) (tokN f L q_7)) 1), .int ((bgS t (tokN f L q_1) (tokN f L q_7)) 2), .int ((bgS t (tokN f L q_1) (tokN f L q_7)) 3), .int ((bgS t (tokN f L q_1) (tokN f L q_7)) 0)])), ((sb 0), wRef (cy 2) 8 S), ((sb 1), wInt (cy 0) 8 (fun j => (bgS t (tokN f L q_1) (tokN f L q_7)) (13 + j))), ((sb 2), wInt (cy 0) 8 (fun j => (bgS t (tokN f L q_1) (tokN f L q_7)) (21 + j))), ((sb 3), wInt (cy 0) 8 (fun j => (bgS t (tokN f L q_1) (tokN f L q_7)) (29 + j)))]) (ws' := (fun u16 : Nat × Int32 × Int32 × Int32 × Int32 => [(rd, .inr (5, [.ref tp, .ref kk, .ref sa, .int (nI L), .int (nI q_10), .int (nI (u16.1)), .int u16.2.1, .int u16.2.2.1, .int u16.2.2.2.1, .int u16.2.2.2.2])), (tp, wInt (cy 0) 60 f), (sa, .inr (8, [.ref (sb 0), .ref (sb 1), .ref (sb 2), .ref (sb 3), .int ((bgS t (tokN f L q_1) (tokN f L q_7)) 1), .int ((bgS t (tokN f L q_1) (tokN f L q_7)) 2), .int ((bgS t (tokN f L q_1) (tokN f L q_7)) 3), .int ((bgS t (tokN f L q_1) (tokN f L q_7)) 0)])), ((sb 0), wRef (cy 2) 8 S), ((sb 1), wInt (cy 0) 8 (fun j => (bgS t (tokN f L q_1) (tokN f L q_7)) (13 + j))), ((sb 2), wInt (cy 0) 8 (fun j => (bgS t (tokN f L q_1) (tokN f L q_7)) (21 + j))), ((sb 3), wInt (cy 0) 8 (fun j => (bgS t (tokN f L q_1) (tokN f L q_7)) (29 + j)))])) (va_runV (As := [.int (nI 59)]) (rest := []) CF (k_X6_readSign l D cy _ rd tp kk sa L (nI q_7) q_10 tk_10 (tokN f L q_7) fn_10 fp_10 f (nI 59) (by first | assumption | omega | decide) (by first | assumption | omega | decide) (by decide) (by decide)) (cwV 1 hts gX6_readLaw_X6_readSign rfl rfl rfl (by decide +kernel) ⟨Nat.le_of_ble_eq_true rfl, Nat.le_of_ble_eq_true rfl⟩) (pre_V hKN hP hD [0, 1] rfl (by decide) 0 5 rfl rfl) rfl rfl hl.1 rfl (lv_room (Nat.le_of_ble_eq_true rfl)) dX6_readLaw_62 ⟨Nat.le_of_ble_eq_true rfl, Nat.le_of_ble_eq_true rfl⟩) hS hA hP hD [0, 1] [2, 3, 4, 5, 6] [5, 6, 0, 1, 2, 3, 4] rfl rfl (by decide) (by decide) (fun _ => rfl) (by decide) (fun r17 u16 H locs hw18 hP hD hS => ?_)
          obtain ⟨hw18a, hw18⟩ := hw18
          replace hw18a := hw18a.symm; subst hw18a
          obtain ⟨q_16, tk_16, vl_16, fn_16, fp_16⟩ := u16
          try dsimp only at hw18
          have le_16 : q_16 ≤ L := (by rw [hw18.1]; exact tokP_le (by first | assumption | exact Nat.zero_le _))
          have hP : va_P D vwCl ([(rd, .inr (5, [.ref tp, .ref kk, .ref sa, .int (nI L), .int (nI q_10), .int (nI q_16), .int tk_16, .int vl_16, .int fn_16, .int fp_16])), (tp, wInt (cy 0) 60 f), (sa, .inr (8, [.ref (sb 0), .ref (sb 1), .ref (sb 2), .ref (sb 3), .int ((bgS t (tokN f L q_1) (tokN f L q_7)) 1), .int ((bgS t (tokN f L q_1) (tokN f L q_7)) 2), .int ((bgS t (tokN f L q_1) (tokN f L q_7)) 3), .int ((bgS t (tokN f L q_1) (tokN f L q_7)) 0)])), ((sb 0), wRef (cy 2) 8 S), ((sb 1), wInt (cy 0) 8 (fun j => (bgS t (tokN f L q_1) (tokN f L q_7)) (13 + j))), ((sb 2), wInt (cy 0) 8 (fun j => (bgS t (tokN f L q_1) (tokN f L q_7)) (21 + j))), ((sb 3), wInt (cy 0) 8 (fun j => (bgS t (tokN f L q_1) (tokN f L q_7)) (29 + j)))]) H := hP
          have hD : va_D A_ ([(rd, .inr (5, [.ref tp, .ref kk, .ref sa, .int (nI L), .int (nI q_10), .int (nI q_16), .int tk_16, .int vl_16, .int fn_16, .int fp_16])), (tp, wInt (cy 0) 60 f), (sa, .inr (8, [.ref (sb 0), .ref (sb 1), .ref (sb 2), .ref (sb 3), .int ((bgS t (tokN f L q_1) (tokN f L q_7)) 1), .int ((bgS t (tokN f L q_1) (tokN f L q_7)) 2), .int ((bgS t (tokN f L q_1) (tokN f L q_7)) 3), .int ((bgS t (tokN f L q_1) (tokN f L q_7)) 0)])), ((sb 0), wRef (cy 2) 8 S), ((sb 1), wInt (cy 0) 8 (fun j => (bgS t (tokN f L q_1) (tokN f L q_7)) (13 + j))), ((sb 2), wInt (cy 0) 8 (fun j => (bgS t (tokN f L q_1) (tokN f L q_7)) (21 + j))), ((sb 3), wInt (cy 0) 8 (fun j => (bgS t (tokN f L q_1) (tokN f L q_7)) (29 + j)))]) := hD
          exact ret _ (nI q_10, q_16, tk_16, vl_16, fn_16, fp_16, (bgS t (tokN f L q_1) (tokN f L q_7))) _ _ _ _ dX6_readLaw_65 bI_nar (by have l1 : q_1 = lp f L 0 1 := hw3.1; have l2 : q_4 = lp f L 0 2 := (by rw [hw6.1, l1]; rfl); have l3 : q_7 = lp f L 0 3 := (by rw [hw9.1, l2]; rfl); have l4 : q_10 = lp f L 0 4 := (by rw [hw12.1, l3]; rfl); have l5 : q_16 = lp f L 0 5 := (by rw [hw18.1, l4]; rfl); subst l1; subst l2; subst l3; subst l4; subst l5; exact lawQ4 c6 c16 c32 c42 (fun z => ⟨rfl, rfl, (by rw [hw18.2.2.1, if_pos z, hw12.2.2.1, if_neg (nn c42.1), if_pos c42.2, hw9.2.2.1, if_pos c32, hw6.2.2.1, if_neg (nn c16.1), if_pos c16.2, hw3.2.2.1, if_pos c6])⟩) (fun z => ⟨hw18.2.2.1.trans (if_neg z), hw18.2.2.2.trans (if_neg z)⟩)) hP hD hS
        · replace c42 : ¬ (tokK f L q_7 = -1 ∧ (nI 1) ≤ tokN f L q_7 ∧ tokN f L q_7 ≤ (nI 8)) := c42
          refine lv_iconst (v := nI 0) hx hb dX6_readLaw_45 (by decide) ?_
          exact ret _ (nI q_7, q_10, tk_10, vl_10, fn_10, fp_10, t) _ _ _ _ dX6_readLaw_46 rfl (by have l1 : q_1 = lp f L 0 1 := hw3.1; have l2 : q_4 = lp f L 0 2 := (by rw [hw6.1, l1]; rfl); have l3 : q_7 = lp f L 0 3 := (by rw [hw9.1, l2]; rfl); have l4 : q_10 = lp f L 0 4 := (by rw [hw12.1, l3]; rfl); subst l1; subst l2; subst l3; subst l4; exact lawQ3 c6 c16 c32 c42 ⟨hw12.2.2.1.trans (numX_e c42), hw12.2.2.2.trans (if_neg c42)⟩) hP hD hS
    · replace c16 : ¬ (tokK f L q_1 = -1 ∧ (nI 2) ≤ tokN f L q_1 ∧ tokN f L q_1 ≤ (nI 6)) := c16
      refine lv_iconst (v := nI 0) hx hb dX6_readLaw_19 (by decide) ?_
      exact ret _ (nI q_1, q_4, tk_4, vl_4, fn_4, fp_4, t) _ _ _ _ dX6_readLaw_20 rfl (by have l1 : q_1 = lp f L 0 1 := hw3.1; have l2 : q_4 = lp f L 0 2 := (by rw [hw6.1, l1]; rfl); subst l1; subst l2; exact lawQ1 c6 c16 ⟨hw6.2.2.1.trans (numX_e c16), hw6.2.2.2.trans (if_neg c16)⟩) hP hD hS
set_option maxHeartbeats 4000000 in
set_option maxRecDepth 100000 in
theorem k_X6_readCard (l : Launch) (D : va_G) (cy : Nat → ClassId) (sz : Nat) (rd : Nat) (tp : Nat) (kk : Nat) (sa : Nat) (L : Nat) (w4 : Int32) (p : Nat) (w6 : Int32) (w7 : Int32) (w8 : Int32) (w9 : Int32) (f : Nat → Int32) (KF : Nat → Option Nat) (kd : Nat → Nat) (sb : Nat → Nat) (S : Nat → Option Nat) (t : Nat → Int32) (n : Nat) (hL : L ≤ 60) (hp : p ≤ L) (hn : n ≤ 8) (h3 : t 3 = nI n) (hKF : ∀ k, 1 ≤ k → k ≤ 5 → KF k = some (kd k)) (hS8 : ∀ j, j < 8 → anyS kd (S j)) : Met l yX6_readCard wsX6_readCard (rmD 4) (pPre D (TY cy) ([(rd, .inr (5, [.ref tp, .ref kk, .ref sa, .int (nI L), .int w4, .int (nI p), .int w6, .int w7, .int w8, .int w9])), (tp, wInt (cy 0) 60 f), (kk, wRef (cy 2) 6 KF), ((kd 1), .inr (3, [])), ((kd 2), .inr (4, [])), ((kd 3), .inr (9, [])), ((kd 4), .inr (6, [])), ((kd 5), .inr (1, [])), (sa, .inr (8, [.ref (sb 0), .ref (sb 1), .ref (sb 2), .ref (sb 3), .int (t 1), .int (t 2), .int (t 3), .int (t 0)])), ((sb 0), wRef (cy 2) 8 S), ((sb 1), wInt (cy 0) 8 (fun j => t (13 + j))), ((sb 2), wInt (cy 0) 8 (fun j => t (21 + j))), ((sb 3), wInt (cy 0) 8 (fun j => t (29 + j)))]) sz [.ref rd]) (pI D (TY cy) ([(rd, .inr (5, [.ref tp, .ref kk, .ref sa, .int (nI L), .int w4, .int (nI p), .int w6, .int w7, .int w8, .int w9])), (tp, wInt (cy 0) 60 f), (kk, wRef (cy 2) 6 KF), ((kd 1), .inr (3, [])), ((kd 2), .inr (4, [])), ((kd 3), .inr (9, [])), ((kd 4), .inr (6, [])), ((kd 5), .inr (1, [])), (sa, .inr (8, [.ref (sb 0), .ref (sb 1), .ref (sb 2), .ref (sb 3), .int (t 1), .int (t 2), .int (t 3), .int (t 0)])), ((sb 0), wRef (cy 2) 8 S), ((sb 1), wInt (cy 0) 8 (fun j => t (13 + j))), ((sb 2), wInt (cy 0) 8 (fun j => t (21 + j))), ((sb 3), wInt (cy 0) 8 (fun j => t (29 + j)))]) sz (fun u : Int32 × Nat × Int32 × Int32 × Int32 × Int32 × (Nat → Option Nat) × (Nat → Int32) => [(rd, .inr (5, [.ref tp, .ref kk, .ref sa, .int (nI L), .int u.1, .int (nI u.2.1), .int u.2.2.1, .int u.2.2.2.1, .int u.2.2.2.2.1, .int u.2.2.2.2.2.1])), (tp, wInt (cy 0) 60 f), (kk, wRef (cy 2) 6 KF), ((kd 1), .inr (3, [])), ((kd 2), .inr (4, [])), ((kd 3), .inr (9, [])), ((kd 4), .inr (6, [])), ((kd 5), .inr (1, [])), (sa, .inr (8, [.ref (sb 0), .ref (sb 1), .ref (sb 2), .ref (sb 3), .int (u.2.2.2.2.2.2.2 1), .int (u.2.2.2.2.2.2.2 2), .int (u.2.2.2.2.2.2.2 3), .int (u.2.2.2.2.2.2.2 0)])), ((sb 0), wRef (cy 2) 8 u.2.2.2.2.2.2.1), ((sb 1), wInt (cy 0) 8 (fun j => u.2.2.2.2.2.2.2 (13 + j))), ((sb 2), wInt (cy 0) 8 (fun j => u.2.2.2.2.2.2.2 (21 + j))), ((sb 3), wInt (cy 0) 8 (fun j => u.2.2.2.2.2.2.2 (29 + j)))]) (fun (r_ : Int32) (u : Int32 × Nat × Int32 × Int32 × Int32 × Int32 × (Nat → Option Nat) × (Nat → Int32)) => r_ = bI (crdX f L p t n = 0) ∧ ((crdX f L p t n = 0 → u.2.1 = lp f L p 5 ∧ u.2.2.2.2.2.2.2 = jnA t n (tokN f L (lp f L p 1)) (sN (tokK f L p)) (tokN f L (lp f L p 3)) ∧ u.2.2.2.2.2.2.1 = va_up S n (some (kd (sN (tokK f L p)))) ∧ u.2.2.2.2.1 = w8) ∧ (¬ crdX f L p t n = 0 → u.2.2.2.2.2.1 = nI (lp f L p (crdT f L p t n)) ∧ u.2.2.2.2.1 = nI (crdX f L p t n))) ∧ ∀ j, j < 8 → anyS kd (u.2.2.2.2.2.2.1 j))) 0 0 (va_A ([(rd, .inr (5, [.ref tp, .ref kk, .ref sa, .int (nI L), .int w4, .int (nI p), .int w6, .int w7, .int w8, .int w9])), (tp, wInt (cy 0) 60 f), (kk, wRef (cy 2) 6 KF), ((kd 1), .inr (3, [])), ((kd 2), .inr (4, [])), ((kd 3), .inr (9, [])), ((kd 4), .inr (6, [])), ((kd 5), .inr (1, [])), (sa, .inr (8, [.ref (sb 0), .ref (sb 1), .ref (sb 2), .ref (sb 3), .int (t 1), .int (t 2), .int (t 3), .int (t 0)])), ((sb 0), wRef (cy 2) 8 S), ((sb 1), wInt (cy 0) 8 (fun j => t (13 + j))), ((sb 2), wInt (cy 0) 8 (fun j => t (21 + j))), ((sb 3), wInt (cy 0) 8 (fun j => t (29 + j)))]) sz) := by
  refine ent_z (cc := cX6_readCard) (maxL := 4) (by decide +kernel) rfl (Nat.le_of_ble_eq_true rfl) ?_
  intro p_ e_ s_ m_ args_ below_ meth_ c_ A_ Q_ ls B0 ret
  obtain ⟨CF, hA, hKN, hP, hD, hl⟩ := B0
  have hK := hKN.1
  obtain ⟨hx, hb, hml, hown, hts⟩ := id CF
  have hS : va_S A_ s_.heap s_.heap [] := va_S.rf
  have hl : lv_has ls 4 [(0, .ref rd)] := hl
  have hf18 := hts (.fieldLink RX6 18 "DrawerCards$Reader" "shelf" "LDrawerCards$Shelf;") (by decide +kernel)
  have hinX6 := show ∀ w ∈ u_ws RX6 TX6 10, w ∈ wsX6_readCard from by decide +kernel
  have hf72 := va_Nw.use (A := args_) (w := .fieldLinkNest "DrawerCards$Reader" 72 "DrawerCards$Shelf" "cards" "I" "DrawerCards") rfl (hKN.2.1 _ (by decide +kernel))
  have hinX9 := show ∀ w ∈ u_ws RX9 TX9 8, w ∈ wsX6_readCard from by decide +kernel
  have hf75 := va_Nw.use (A := args_) (w := .fieldLinkNest "DrawerCards$Reader" 75 "DrawerCards$Shelf" "drawers" "I" "DrawerCards") rfl (hKN.2.1 _ (by decide +kernel))
  have hf54 := hts (.fieldLink RX6 54 "DrawerCards$Reader" "value" "I") (by decide +kernel)
  refine lv_aload_n hx hb dX6_readCard_0 rfl (lv_at hl 0 rfl) ?_
  refine call_v (wr := [(kk, wRef (cy 2) 6 KF), ((kd 1), .inr (3, [])), ((kd 2), .inr (4, [])), ((kd 3), .inr (9, [])), ((kd 4), .inr (6, [])), ((kd 5), .inr (1, [])), (sa, .inr (8, [.ref (sb 0), .ref (sb 1), .ref (sb 2), .ref (sb 3), .int (t 1), .int (t 2), .int (t 3), .int (t 0)])), ((sb 0), wRef (cy 2) 8 S), ((sb 1), wInt (cy 0) 8 (fun j => t (13 + j))), ((sb 2), wInt (cy 0) 8 (fun j => t (21 + j))), ((sb 3), wInt (cy 0) 8 (fun j => t (29 + j)))]) (ws' := (fun u1 : Nat × Int32 × Int32 => [(rd, .inr (5, [.ref tp, .ref kk, .ref sa, .int (nI L), .int (nI p), .int (nI (u1.1)), .int u1.2.1, .int u1.2.2, .int w8, .int w9])), (tp, wInt (cy 0) 60 f), (kk, wRef (cy 2) 6 KF), ((kd 1), .inr (3, [])), ((kd 2), .inr (4, [])), ((kd 3), .inr (9, [])), ((kd 4), .inr (6, [])), ((kd 5), .inr (1, [])), (sa, .inr (8, [.ref (sb 0), .ref (sb 1), .ref (sb 2), .ref (sb 3), .int (t 1), .int (t 2), .int (t 3), .int (t 0)])), ((sb 0), wRef (cy 2) 8 S), ((sb 1), wInt (cy 0) 8 (fun j => t (13 + j))), ((sb 2), wInt (cy 0) 8 (fun j => t (21 + j))), ((sb 3), wInt (cy 0) 8 (fun j => t (29 + j)))])) (va_runV (As := []) (rest := []) CF (k_X6_nextToken l D cy _ rd tp kk sa L w4 p w6 w7 w8 w9 f (by first | assumption | omega | decide) (by first | assumption | omega | decide)) (cwV 0 hts gX6_readCard_X6_nextToken rfl rfl rfl (by decide +kernel) ⟨Nat.le_of_ble_eq_true rfl, Nat.le_of_ble_eq_true rfl⟩) (pre_V hKN hP hD [0, 1] rfl (by decide) 0 5 rfl rfl) rfl rfl hl.1 rfl (lv_room (Nat.le_of_ble_eq_true rfl)) dX6_readCard_1 ⟨Nat.le_of_ble_eq_true rfl, Nat.le_of_ble_eq_true rfl⟩) hS hA hP hD [0, 1] [2, 3, 4, 5, 6, 7, 8, 9, 10, 11, 12] [11, 12, 0, 1, 2, 3, 4, 5, 6, 7, 8, 9, 10] rfl rfl (by decide) (by decide) (fun _ => rfl) (by decide) (fun u1 H locs hw3 hP hD hS => ?_)
  replace hw3 := hw3.symm; subst hw3
  have hP : va_P D vwCl ([(rd, .inr (5, [.ref tp, .ref kk, .ref sa, .int (nI L), .int (nI p), .int (nI ((tokP f L p))), .int (cK f L p), .int (vlC f L p w7), .int w8, .int w9])), (tp, wInt (cy 0) 60 f), (kk, wRef (cy 2) 6 KF), ((kd 1), .inr (3, [])), ((kd 2), .inr (4, [])), ((kd 3), .inr (9, [])), ((kd 4), .inr (6, [])), ((kd 5), .inr (1, [])), (sa, .inr (8, [.ref (sb 0), .ref (sb 1), .ref (sb 2), .ref (sb 3), .int (t 1), .int (t 2), .int (t 3), .int (t 0)])), ((sb 0), wRef (cy 2) 8 S), ((sb 1), wInt (cy 0) 8 (fun j => t (13 + j))), ((sb 2), wInt (cy 0) 8 (fun j => t (21 + j))), ((sb 3), wInt (cy 0) 8 (fun j => t (29 + j)))]) H := hP
  have hD : va_D A_ ([(rd, .inr (5, [.ref tp, .ref kk, .ref sa, .int (nI L), .int (nI p), .int (nI ((tokP f L p))), .int (cK f L p), .int (vlC f L p w7), .int w8, .int w9])), (tp, wInt (cy 0) 60 f), (kk, wRef (cy 2) 6 KF), ((kd 1), .inr (3, [])), ((kd 2), .inr (4, [])), ((kd 3), .inr (9, [])), ((kd 4), .inr (6, [])), ((kd 5), .inr (1, [])), (sa, .inr (8, [.ref (sb 0), .ref (sb 1), .ref (sb 2), .ref (sb 3), .int (t 1), .int (t 2), .int (t 3), .int (t 0)])), ((sb 0), wRef (cy 2) 8 S), ((sb 1), wInt (cy 0) 8 (fun j => t (13 + j))), ((sb 2), wInt (cy 0) 8 (fun j => t (21 + j))), ((sb 3), wInt (cy 0) 8 (fun j => t (29 + j)))]) := hD
  refine lv_aload_n hx hb dX6_readCard_4 rfl (lv_at hl 0 rfl) ?_
  refine call_o (wr := [(tp, wInt (cy 0) 60 f), (sa, .inr (8, [.ref (sb 0), .ref (sb 1), .ref (sb 2), .ref (sb 3), .int (t 1), .int (t 2), .int (t 3), .int (t 0)])), ((sb 0), wRef (cy 2) 8 S), ((sb 1), wInt (cy 0) 8 (fun j => t (13 + j))), ((sb 2), wInt (cy 0) 8 (fun j => t (21 + j))), ((sb 3), wInt (cy 0) 8 (fun j => t (29 + j)))]) (ws' := (fun _ : Unit => [(rd, .inr (5, [.ref tp, .ref kk, .ref sa, .int (nI L), .int (nI p), .int (nI ((tokP f L p))), .int (cK f L p), .int (vlC f L p w7), .int w8, .int w9])), (tp, wInt (cy 0) 60 f), (kk, wRef (cy 2) 6 KF), ((kd 1), .inr (3, [])), ((kd 2), .inr (4, [])), ((kd 3), .inr (9, [])), ((kd 4), .inr (6, [])), ((kd 5), .inr (1, [])), (sa, .inr (8, [.ref (sb 0), .ref (sb 1), .ref (sb 2), .ref (sb 3), .int (t 1), .int (t 2), .int (t 3), .int (t 0)])), ((sb 0), wRef (cy 2) 8 S), ((sb 1), wInt (cy 0) 8 (fun j => t (13 + j))), ((sb 2), wInt (cy 0) 8 (fun j => t (21 + j))), ((sb 3), wInt (cy 0) 8 (fun j => t (29 + j)))])) (va_runV (As := []) (rest := []) CF (k_X6_sortOfLetter l D cy _ rd tp kk sa L (nI p) (tokP f L p) (cK f L p) (vlC f L p w7) w8 w9 KF kd (by first | assumption | omega | decide)) (cwV 0 hts gX6_readCard_X6_sortOfLetter rfl rfl rfl (by decide +kernel) ⟨Nat.le_of_ble_eq_true rfl, Nat.le_of_ble_eq_true rfl⟩) (pre_V hKN hP hD [0, 2, 3, 4, 5, 6, 7] rfl (by decide) 0 5 rfl rfl) rfl rfl hl.1 rfl (lv_room (Nat.le_of_ble_eq_true rfl)) dX6_readCard_5 ⟨Nat.le_of_ble_eq_true rfl, Nat.le_of_ble_eq_true rfl⟩) hS hA hP hD [0, 2, 3, 4, 5, 6, 7] [1, 8, 9, 10, 11, 12] [6, 0, 7, 8, 9, 10, 11, 12, 1, 2, 3, 4, 5] rfl rfl (by decide) (by decide) (fun _ => rfl) (by decide) (fun r5 u4 H locs hw6 hP hD hS => ?_)
  replace hw6 := hw6.symm; subst hw6
  by_cases cs : sN (tokK f L p) = 0
  · have s0 := crdS_z cs
    refine nulO (srO_n (by rw [cK_sN]; exact cs)) ?_
    refine lv_astore_nN (lv' := [(1, .null), (0, .ref rd)]) hx hb dX6_readCard_8 rfl hl (by decide) rfl (fun ls hl => ?_)
    refine lv_aload_nN hx hb dX6_readCard_9 rfl (lv_at hl 0 rfl) ?_
    refine lv_ifnonnullN hx hb dX6_readCard_10 ?_
    refine lv_aload_n hx hb dX6_readCard_13 rfl (lv_at hl 1 rfl) ?_
    refine lv_iconst (v := nI 1) hx hb dX6_readCard_14 (by decide) ?_
    refine call_i (wr := [(tp, wInt (cy 0) 60 f), (kk, wRef (cy 2) 6 KF), ((kd 1), .inr (3, [])), ((kd 2), .inr (4, [])), ((kd 3), .inr (9, [])), ((kd 4), .inr (6, [])), ((kd 5), .inr (1, [])), (sa, .inr (8, [.ref (sb 0), .ref (sb 1), .ref (sb 2), .ref (sb 3), .int (t 1), .int (t 2), .int (t 3), .int (t 0)])), ((sb 0), wRef (cy 2) 8 S), ((sb 1), wInt (cy 0) 8 (fun j => t (13 + j))), ((sb 2), wInt (cy 0) 8 (fun j => t (21 + j))), ((sb 3), wInt (cy 0) 8 (fun j => t (29 + j)))]) (ws' := (fun _ : Unit => [(rd, .inr (5, [.ref tp, .ref kk, .ref sa, .int (nI L), .int (nI p), .int (nI ((tokP f L p))), .int (cK f L p), .int (vlC f L p w7), .int (nI 1), .int (nI p)])), (tp, wInt (cy 0) 60 f), (kk, wRef (cy 2) 6 KF), ((kd 1), .inr (3, [])), ((kd 2), .inr (4, [])), ((kd 3), .inr (9, [])), ((kd 4), .inr (6, [])), ((kd 5), .inr (1, [])), (sa, .inr (8, [.ref (sb 0), .ref (sb 1), .ref (sb 2), .ref (sb 3), .int (t 1), .int (t 2), .int (t 3), .int (t 0)])), ((sb 0), wRef (cy 2) 8 S), ((sb 1), wInt (cy 0) 8 (fun j => t (13 + j))), ((sb 2), wInt (cy 0) 8 (fun j => t (21 + j))), ((sb 3), wInt (cy 0) 8 (fun j => t (29 + j)))])) (va_runV (As := [.int (nI 1)]) (rest := []) CF (k_X6_failWith l D cy _ rd tp kk sa L (nI p) (tokP f L p) (cK f L p) (vlC f L p w7) w8 w9 1 ) (cwV 1 hts gX6_readCard_X6_failWith rfl rfl rfl (by decide +kernel) ⟨Nat.le_of_ble_eq_true rfl, Nat.le_of_ble_eq_true rfl⟩) (pre_V hKN hP hD [0] rfl (by decide) 0 5 rfl rfl) rfl rfl hl.1 rfl (lv_room (Nat.le_of_ble_eq_true rfl)) dX6_readCard_15 ⟨Nat.le_of_ble_eq_true rfl, Nat.le_of_ble_eq_true rfl⟩) hS hA hP hD [0] [1, 2, 3, 4, 5, 6, 7, 8, 9, 10, 11, 12] [12, 0, 1, 2, 3, 4, 5, 6, 7, 8, 9, 10, 11] rfl rfl (by decide) (by decide) (fun _ => rfl) (by decide) (fun r8 u7 H locs hw9 hP hD hS => ?_)
    replace hw9 := hw9.symm; subst hw9
    exact ret _ (nI p, (tokP f L p), (cK f L p), (vlC f L p w7), nI 1, (nI p), S, t) _ _ _ _ dX6_readCard_18 rfl (qx (crdQ0 s0) hS8) hP hD hS
  · have s0 := crdS_p cs
    have sk5 := sN_le (tokK f L p)
    have skq := srO_s (kd := kd) (x := cK f L p) (by rw [cK_sN]; exact cs)
    rw [cK_sN] at skq
    obtain ⟨sk, esk⟩ : ∃ z, z = sN (tokK f L p) := ⟨_, rfl⟩
    rw [← esk] at sk5 skq cs
    refine top_q skq ?_
    refine lv_astore_n (lv' := [(1, .ref (kd sk)), (0, .ref rd)]) hx hb dX6_readCard_8 rfl hl (by decide) rfl (fun ls hl => ?_)
    refine lv_aload_n hx hb dX6_readCard_9 rfl (lv_at hl 0 rfl) ?_
    refine lv_ifnonnull (tgt := 19) hx hb dX6_readCard_10 (by decide) ?_
    refine lv_aload_n hx hb dX6_readCard_19 rfl (lv_at hl 1 rfl) ?_
    refine va_get (ci := 5) (v := .ref sa) (C := RX6) (T := TX6) (N := 10) hx hb hts hinX6 hown hK hP 0 rfl rfl 2 (by decide) hf18 (fun _ h9 => h9) rfl dX6_readCard_20 ?_
    refine va_getN (ci := 8) (v := .int (t 3)) (C := RX9) (T := TX9) (N := 8) hx hb hts hinX9 hown hK hP 8 rfl rfl 6 (by decide) hf72 (fun _ h9 => h9) rfl dX6_readCard_23 ?_
    refine top_i h3 ?_
    refine lv_istore_n (lv' := [(2, .int (nI n)), (1, .ref (kd sk)), (0, .ref rd)]) hx hb dX6_readCard_26 rfl hl (by decide) rfl (fun ls hl => ?_)
    refine lv_iload_n hx hb dX6_readCard_27 rfl (lv_at hl 0 rfl) ?_
    refine lv_bipush (v := nI 8) hx hb dX6_readCard_28 (by decide) ?_
    refine ltN (tgt := 39) hx hb (by omega) (by decide) dX6_readCard_30 (by decide) (fun c30 => ?_) (fun c30 => ?_)
    · have le_0 : tokP f L p ≤ L := tokP_le hp
      refine lv_aload_n hx hb dX6_readCard_39 rfl (lv_at hl 2 rfl) ?_
      refine lv_iconst (v := nI 0) hx hb dX6_readCard_40 (by decide) ?_
      refine lv_aload_n hx hb dX6_readCard_41 rfl (lv_at hl 2 rfl) ?_
      refine va_get (ci := 5) (v := .ref sa) (C := RX6) (T := TX6) (N := 10) hx hb hts hinX6 hown hK hP 0 rfl rfl 2 (by decide) hf18 (fun _ h9 => h9) rfl dX6_readCard_42 ?_
      refine va_getN (ci := 8) (v := .int (t 1)) (C := RX9) (T := TX9) (N := 8) hx hb hts hinX9 hown hK hP 8 rfl rfl 4 (by decide) hf75 (fun _ h9 => h9) rfl dX6_readCard_45 ?_
      refine lv_iconst (v := nI 1) hx hb dX6_readCard_48 (by decide) ?_
      refine lv_isub hx hb dX6_readCard_49 ?_
      refine call_i (wr := [(kk, wRef (cy 2) 6 KF), ((kd 1), .inr (3, [])), ((kd 2), .inr (4, [])), ((kd 3), .inr (9, [])), ((kd 4), .inr (6, [])), ((kd 5), .inr (1, [])), (sa, .inr (8, [.ref (sb 0), .ref (sb 1), .ref (sb 2), .ref (sb 3), .int (t 1), .int (t 2), .int (t 3), .int (t 0)])), ((sb 0), wRef (cy 2) 8 S), ((sb 1), wInt (cy 0) 8 (fun j => t (13 + j))), ((sb 2), wInt (cy 0) 8 (fun j => t (21 + j))), ((sb 3), wInt (cy 0) 8 (fun j => t (29 + j)))]) (ws' := (fun u10 : Nat × Int32 × Int32 × Int32 × Int32 => [(rd, .inr (5, [.ref tp, .ref kk, .ref sa, .int (nI L), .int (nI ((tokP f L p))), .int (nI (u10.1)), .int u10.2.1, .int u10.2.2.1, .int u10.2.2.2.1, .int u10.2.2.2.2])), (tp, wInt (cy 0) 60 f), (kk, wRef (cy 2) 6 KF), ((kd 1), .inr (3, [])), ((kd 2), .inr (4, [])), ((kd 3), .inr (9, [])), ((kd 4), .inr (6, [])), ((kd 5), .inr (1, [])), (sa, .inr (8, [.ref (sb 0), .ref (sb 1), .ref (sb 2), .ref (sb 3), .int (t 1), .int (t 2), .int (t 3), .int (t 0)])), ((sb 0), wRef (cy 2) 8 S), ((sb 1), wInt (cy 0) 8 (fun j => t (13 + j))), ((sb 2), wInt (cy 0) 8 (fun j => t (21 + j))), ((sb 3), wInt (cy 0) 8 (fun j => t (29 + j)))])) (va_runV (As := [.int (nI 0), .int (t 1 - nI 1)]) (rest := []) CF (k_X6_readNumber l D cy _ rd tp kk sa L (nI p) (tokP f L p) (cK f L p) (vlC f L p w7) w8 w9 f (nI 0) (t 1 - nI 1) (by first | assumption | omega | decide) (by first | assumption | omega | decide)) (cwV 2 hts gX6_readCard_X6_readNumber rfl rfl rfl (by decide +kernel) ⟨Nat.le_of_ble_eq_true rfl, Nat.le_of_ble_eq_true rfl⟩) (pre_V hKN hP hD [0, 1] rfl (by decide) 0 5 rfl rfl) rfl rfl hl.1 rfl (lv_room (Nat.le_of_ble_eq_true rfl)) dX6_readCard_50 ⟨Nat.le_of_ble_eq_true rfl, Nat.le_of_ble_eq_true rfl⟩) hS hA hP hD [0, 1] [2, 3, 4, 5, 6, 7, 8, 9, 10, 11, 12] [11, 12, 0, 1, 2, 3, 4, 5, 6, 7, 8, 9, 10] rfl rfl (by decide) (by decide) (fun _ => rfl) (by decide) (fun r11 u10 H locs hw12 hP hD hS => ?_)
      obtain ⟨hw12a, hw12⟩ := hw12
      replace hw12a := hw12a.symm; subst hw12a
      obtain ⟨q_10, tk_10, vl_10, fn_10, fp_10⟩ := u10
      try dsimp only at hw12
      have le_10 : q_10 ≤ L := (by rw [hw12.1]; exact tokP_le (by first | assumption | exact Nat.zero_le _))
      have hP : va_P D vwCl ([(rd, .inr (5, [.ref tp, .ref kk, .ref sa, .int (nI L), .int (nI ((tokP f L p))), .int (nI q_10), .int tk_10, .int vl_10, .int fn_10, .int fp_10])), (tp, wInt (cy 0) 60 f), (kk, wRef (cy 2) 6 KF), ((kd 1), .inr (3, [])), ((kd 2), .inr (4, [])), ((kd 3), .inr (9, [])), ((kd 4), .inr (6, [])), ((kd 5), .inr (1, [])), (sa, .inr (8, [.ref (sb 0), .ref (sb 1), .ref (sb 2), .ref (sb 3), .int (t 1), .int (t 2), .int (t 3), .int (t 0)])), ((sb 0), wRef (cy 2) 8 S), ((sb 1), wInt (cy 0) 8 (fun j => t (13 + j))), ((sb 2), wInt (cy 0) 8 (fun j => t (21 + j))), ((sb 3), wInt (cy 0) 8 (fun j => t (29 + j)))]) H := hP
      have hD : va_D A_ ([(rd, .inr (5, [.ref tp, .ref kk, .ref sa, .int (nI L), .int (nI ((tokP f L p))), .int (nI q_10), .int tk_10, .int vl_10, .int fn_10, .int fp_10])), (tp, wInt (cy 0) 60 f), (kk, wRef (cy 2) 6 KF), ((kd 1), .inr (3, [])), ((kd 2), .inr (4, [])), ((kd 3), .inr (9, [])), ((kd 4), .inr (6, [])), ((kd 5), .inr (1, [])), (sa, .inr (8, [.ref (sb 0), .ref (sb 1), .ref (sb 2), .ref (sb 3), .int (t 1), .int (t 2), .int (t 3), .int (t 0)])), ((sb 0), wRef (cy 2) 8 S), ((sb 1), wInt (cy 0) 8 (fun j => t (13 + j))), ((sb 2), wInt (cy 0) 8 (fun j => t (21 + j))), ((sb 3), wInt (cy 0) 8 (fun j => t (29 + j)))]) := hD
      refine ifneB (tgt := 58) hx hb dX6_readCard_53 (by decide) (fun c53 => ?_) (fun c53 => ?_)
      · replace c53 : (tokK f L (tokP f L p) = -1 ∧ (nI 0) ≤ tokN f L (tokP f L p) ∧ tokN f L (tokP f L p) ≤ (t 1 - nI 1)) := c53
        have ev_10 := hw12.2.1 c53.1
        subst ev_10
        refine lv_aload_n hx hb dX6_readCard_58 rfl (lv_at hl 2 rfl) ?_
        refine va_get (ci := 5) (v := .int (tokN f L ((tokP f L p)))) (C := RX6) (T := TX6) (N := 10) hx hb hts hinX6 hown hK hP 0 rfl rfl 7 (by decide) hf54 (fun _ h9 => h9) rfl dX6_readCard_59 ?_
        refine lv_istore_n (lv' := [(3, .int (tokN f L ((tokP f L p)))), (2, .int (nI n)), (1, .ref (kd sk)), (0, .ref rd)]) hx hb dX6_readCard_62 rfl hl (by decide) rfl (fun ls hl => ?_)
        refine lv_aload_n hx hb dX6_readCard_63 rfl (lv_at hl 3 rfl) ?_
        refine va_get (ci := 5) (v := .ref sa) (C := RX6) (T := TX6) (N := 10) hx hb hts hinX6 hown hK hP 0 rfl rfl 2 (by decide) hf18 (fun _ h9 => h9) rfl dX6_readCard_64 ?_
        refine lv_iload_n hx hb dX6_readCard_67 rfl (lv_at hl 0 rfl) ?_
        refine call_i (wr := [(rd, .inr (5, [.ref tp, .ref kk, .ref sa, .int (nI L), .int (nI ((tokP f L p))), .int (nI q_10), .int tk_10, .int (tokN f L ((tokP f L p))), .int fn_10, .int fp_10])), (tp, wInt (cy 0) 60 f), (kk, wRef (cy 2) 6 KF), ((kd 1), .inr (3, [])), ((kd 2), .inr (4, [])), ((kd 3), .inr (9, [])), ((kd 4), .inr (6, [])), ((kd 5), .inr (1, []))]) (ws' := (fun _ : Unit => [(rd, .inr (5, [.ref tp, .ref kk, .ref sa, .int (nI L), .int (nI ((tokP f L p))), .int (nI q_10), .int tk_10, .int (tokN f L ((tokP f L p))), .int fn_10, .int fp_10])), (tp, wInt (cy 0) 60 f), (kk, wRef (cy 2) 6 KF), ((kd 1), .inr (3, [])), ((kd 2), .inr (4, [])), ((kd 3), .inr (9, [])), ((kd 4), .inr (6, [])), ((kd 5), .inr (1, [])), (sa, .inr (8, [.ref (sb 0), .ref (sb 1), .ref (sb 2), .ref (sb 3), .int (t 1), .int (t 2), .int (t 3), .int (t 0)])), ((sb 0), wRef (cy 2) 8 S), ((sb 1), wInt (cy 0) 8 (fun j => t (13 + j))), ((sb 2), wInt (cy 0) 8 (fun j => t (21 + j))), ((sb 3), wInt (cy 0) 8 (fun j => t (29 + j)))])) (va_runV (As := [.int (tokN f L ((tokP f L p)))]) (rest := []) CF (k_X9_holdsOneMore l D cy _ sa sb S t (tokN f L ((tokP f L p))) n (by first | assumption | omega | decide) (by first | assumption | omega | decide)) (cwV 1 hts gX6_readCard_X9_holdsOneMore rfl rfl rfl (by decide +kernel) ⟨Nat.le_of_ble_eq_true rfl, Nat.le_of_ble_eq_true rfl⟩) (pre_V hKN hP hD [8, 9, 10, 11, 12] rfl (by decide) 8 8 rfl rfl) rfl rfl hl.1 rfl (lv_room (Nat.le_of_ble_eq_true rfl)) dX6_readCard_68 ⟨Nat.le_of_ble_eq_true rfl, Nat.le_of_ble_eq_true rfl⟩) hS hA hP hD [8, 9, 10, 11, 12] [0, 1, 2, 3, 4, 5, 6, 7] [0, 1, 2, 3, 4, 5, 6, 7, 8, 9, 10, 11, 12] rfl rfl (by decide) (by decide) (fun _ => rfl) (by decide) (fun r14 u13 H locs hw15 hP hD hS => ?_)
        replace hw15 := hw15.symm; subst hw15
        refine ifneB (tgt := 80) hx hb dX6_readCard_71 (by decide) (fun c71 => ?_) (fun c71 => ?_)
        · replace c71 : (¬ t 2 ≤ fillN t (tokN f L ((tokP f L p))) n) := c71
          refine lv_aload_n hx hb dX6_readCard_80 rfl (lv_at hl 3 rfl) ?_
          refine lv_bipush (v := nI 44) hx hb dX6_readCard_81 (by decide) ?_
          refine call_i (wr := [(kk, wRef (cy 2) 6 KF), ((kd 1), .inr (3, [])), ((kd 2), .inr (4, [])), ((kd 3), .inr (9, [])), ((kd 4), .inr (6, [])), ((kd 5), .inr (1, [])), (sa, .inr (8, [.ref (sb 0), .ref (sb 1), .ref (sb 2), .ref (sb 3), .int (t 1), .int (t 2), .int (t 3), .int (t 0)])), ((sb 0), wRef (cy 2) 8 S), ((sb 1), wInt (cy 0) 8 (fun j => t (13 + j))), ((sb 2), wInt (cy 0) 8 (fun j => t (21 + j))), ((sb 3), wInt (cy 0) 8 (fun j => t (29 + j)))]) (ws' := (fun u16 : Nat × Int32 × Int32 × Int32 × Int32 => [(rd, .inr (5, [.ref tp, .ref kk, .ref sa, .int (nI L), .int (nI q_10), .int (nI (u16.1)), .int u16.2.1, .int u16.2.2.1, .int u16.2.2.2.1, .int u16.2.2.2.2])), (tp, wInt (cy 0) 60 f), (kk, wRef (cy 2) 6 KF), ((kd 1), .inr (3, [])), ((kd 2), .inr (4, [])), ((kd 3), .inr (9, [])), ((kd 4), .inr (6, [])), ((kd 5), .inr (1, [])), (sa, .inr (8, [.ref (sb 0), .ref (sb 1), .ref (sb 2), .ref (sb 3), .int (t 1), .int (t 2), .int (t 3), .int (t 0)])), ((sb 0), wRef (cy 2) 8 S), ((sb 1), wInt (cy 0) 8 (fun j => t (13 + j))), ((sb 2), wInt (cy 0) 8 (fun j => t (21 + j))), ((sb 3), wInt (cy 0) 8 (fun j => t (29 + j)))])) (va_runV (As := [.int (nI 44)]) (rest := []) CF (k_X6_readSign l D cy _ rd tp kk sa L (nI ((tokP f L p))) q_10 tk_10 (tokN f L ((tokP f L p))) fn_10 fp_10 f (nI 44) (by first | assumption | omega | decide) (by first | assumption | omega | decide) (by decide) (by decide)) (cwV 1 hts gX6_readCard_X6_readSign rfl rfl rfl (by decide +kernel) ⟨Nat.le_of_ble_eq_true rfl, Nat.le_of_ble_eq_true rfl⟩) (pre_V hKN hP hD [0, 1] rfl (by decide) 0 5 rfl rfl) rfl rfl hl.1 rfl (lv_room (Nat.le_of_ble_eq_true rfl)) dX6_readCard_83 ⟨Nat.le_of_ble_eq_true rfl, Nat.le_of_ble_eq_true rfl⟩) hS hA hP hD [0, 1] [2, 3, 4, 5, 6, 7, 8, 9, 10, 11, 12] [11, 12, 0, 1, 2, 3, 4, 5, 6, 7, 8, 9, 10] rfl rfl (by decide) (by decide) (fun _ => rfl) (by decide) (fun r17 u16 H locs hw18 hP hD hS => ?_)
          obtain ⟨hw18a, hw18⟩ := hw18
          replace hw18a := hw18a.symm; subst hw18a
          obtain ⟨q_16, tk_16, vl_16, fn_16, fp_16⟩ := u16
          try dsimp only at hw18
          have le_16 : q_16 ≤ L := (by rw [hw18.1]; exact tokP_le (by first | assumption | exact Nat.zero_le _))
          have hP : va_P D vwCl ([(rd, .inr (5, [.ref tp, .ref kk, .ref sa, .int (nI L), .int (nI q_10), .int (nI q_16), .int tk_16, .int vl_16, .int fn_16, .int fp_16])), (tp, wInt (cy 0) 60 f), (kk, wRef (cy 2) 6 KF), ((kd 1), .inr (3, [])), ((kd 2), .inr (4, [])), ((kd 3), .inr (9, [])), ((kd 4), .inr (6, [])), ((kd 5), .inr (1, [])), (sa, .inr (8, [.ref (sb 0), .ref (sb 1), .ref (sb 2), .ref (sb 3), .int (t 1), .int (t 2), .int (t 3), .int (t 0)])), ((sb 0), wRef (cy 2) 8 S), ((sb 1), wInt (cy 0) 8 (fun j => t (13 + j))), ((sb 2), wInt (cy 0) 8 (fun j => t (21 + j))), ((sb 3), wInt (cy 0) 8 (fun j => t (29 + j)))]) H := hP
          have hD : va_D A_ ([(rd, .inr (5, [.ref tp, .ref kk, .ref sa, .int (nI L), .int (nI q_10), .int (nI q_16), .int tk_16, .int vl_16, .int fn_16, .int fp_16])), (tp, wInt (cy 0) 60 f), (kk, wRef (cy 2) 6 KF), ((kd 1), .inr (3, [])), ((kd 2), .inr (4, [])), ((kd 3), .inr (9, [])), ((kd 4), .inr (6, [])), ((kd 5), .inr (1, [])), (sa, .inr (8, [.ref (sb 0), .ref (sb 1), .ref (sb 2), .ref (sb 3), .int (t 1), .int (t 2), .int (t 3), .int (t 0)])), ((sb 0), wRef (cy 2) 8 S), ((sb 1), wInt (cy 0) 8 (fun j => t (13 + j))), ((sb 2), wInt (cy 0) 8 (fun j => t (21 + j))), ((sb 3), wInt (cy 0) 8 (fun j => t (29 + j)))]) := hD
          refine ifeqB (tgt := 99) hx hb dX6_readCard_86 (by decide) (fun c86 => ?_) (fun c86 => ?_)
          · replace c86 : ¬ (tokK f L q_10 = (nI 44)) := c86
            refine lv_iconst (v := nI 0) hx hb dX6_readCard_99 (by decide) ?_
            exact ret _ (nI q_10, q_16, tk_16, vl_16, fn_16, fp_16, S, t) _ _ _ _ dX6_readCard_100 rfl (by have l2 : q_10 = lp f L p 2 := hw12.1; have l3 : q_16 = lp f L p 3 := (by rw [hw18.1, l2]; rfl); subst l2; subst l3; exact qx (crdQ4 s0 (by omega) c53 (Int32.not_le.mp c71) c86 ⟨hw18.2.2.1.trans (if_neg c86), hw18.2.2.2.trans (if_neg c86)⟩) hS8) hP hD hS
          · replace c86 : (tokK f L q_10 = (nI 44)) := c86
            refine lv_aload_n hx hb dX6_readCard_89 rfl (lv_at hl 3 rfl) ?_
            refine lv_iconst (v := nI 0) hx hb dX6_readCard_90 (by decide) ?_
            refine lv_bipush (v := nI 7) hx hb dX6_readCard_91 (by decide) ?_
            refine call_i (wr := [(kk, wRef (cy 2) 6 KF), ((kd 1), .inr (3, [])), ((kd 2), .inr (4, [])), ((kd 3), .inr (9, [])), ((kd 4), .inr (6, [])), ((kd 5), .inr (1, [])), (sa, .inr (8, [.ref (sb 0), .ref (sb 1), .ref (sb 2), .ref (sb 3), .int (t 1), .int (t 2), .int (t 3), .int (t 0)])), ((sb 0), wRef (cy 2) 8 S), ((sb 1), wInt (cy 0) 8 (fun j => t (13 + j))), ((sb 2), wInt (cy 0) 8 (fun j => t (21 + j))), ((sb 3), wInt (cy 0) 8 (fun j => t (29 + j)))]) (ws' := (fun u19 : Nat × Int32 × Int32 × Int32 × Int32 => [(rd, .inr (5, [.ref tp, .ref kk, .ref sa, .int (nI L), .int (nI q_16), .int (nI (u19.1)), .int u19.2.1, .int u19.2.2.1, .int u19.2.2.2.1, .int u19.2.2.2.2])), (tp, wInt (cy 0) 60 f), (kk, wRef (cy 2) 6 KF), ((kd 1), .inr (3, [])), ((kd 2), .inr (4, [])), ((kd 3), .inr (9, [])), ((kd 4), .inr (6, [])), ((kd 5), .inr (1, [])), (sa, .inr (8, [.ref (sb 0), .ref (sb 1), .ref (sb 2), .ref (sb 3), .int (t 1), .int (t 2), .int (t 3), .int (t 0)])), ((sb 0), wRef (cy 2) 8 S), ((sb 1), wInt (cy 0) 8 (fun j => t (13 + j))), ((sb 2), wInt (cy 0) 8 (fun j => t (21 + j))), ((sb 3), wInt (cy 0) 8 (fun j => t (29 + j)))])) (va_runV (As := [.int (nI 0), .int (nI 7)]) (rest := []) CF (k_X6_readNumber l D cy _ rd tp kk sa L (nI q_10) q_16 tk_16 vl_16 fn_16 fp_16 f (nI 0) (nI 7) (by first | assumption | omega | decide) (by first | assumption | omega | decide)) (cwV 2 hts gX6_readCard_X6_readNumber rfl rfl rfl (by decide +kernel) ⟨Nat.le_of_ble_eq_true rfl, Nat.le_of_ble_eq_true rfl⟩) (pre_V hKN hP hD [0, 1] rfl (by decide) 0 5 rfl rfl) rfl rfl hl.1 rfl (lv_room (Nat.le_of_ble_eq_true rfl)) dX6_readCard_93 ⟨Nat.le_of_ble_eq_true rfl, Nat.le_of_ble_eq_true rfl⟩) hS hA hP hD [0, 1] [2, 3, 4, 5, 6, 7, 8, 9, 10, 11, 12] [11, 12, 0, 1, 2, 3, 4, 5, 6, 7, 8, 9, 10] rfl rfl (by decide) (by decide) (fun _ => rfl) (by decide) (fun r20 u19 H locs hw21 hP hD hS => ?_)
            obtain ⟨hw21a, hw21⟩ := hw21
            replace hw21a := hw21a.symm; subst hw21a
            obtain ⟨q_19, tk_19, vl_19, fn_19, fp_19⟩ := u19
            try dsimp only at hw21
            have le_19 : q_19 ≤ L := (by rw [hw21.1]; exact tokP_le (by first | assumption | exact Nat.zero_le _))
            have hP : va_P D vwCl ([(rd, .inr (5, [.ref tp, .ref kk, .ref sa, .int (nI L), .int (nI q_16), .int (nI q_19), .int tk_19, .int vl_19, .int fn_19, .int fp_19])), (tp, wInt (cy 0) 60 f), (kk, wRef (cy 2) 6 KF), ((kd 1), .inr (3, [])), ((kd 2), .inr (4, [])), ((kd 3), .inr (9, [])), ((kd 4), .inr (6, [])), ((kd 5), .inr (1, [])), (sa, .inr (8, [.ref (sb 0), .ref (sb 1), .ref (sb 2), .ref (sb 3), .int (t 1), .int (t 2), .int (t 3), .int (t 0)])), ((sb 0), wRef (cy 2) 8 S), ((sb 1), wInt (cy 0) 8 (fun j => t (13 + j))), ((sb 2), wInt (cy 0) 8 (fun j => t (21 + j))), ((sb 3), wInt (cy 0) 8 (fun j => t (29 + j)))]) H := hP
            have hD : va_D A_ ([(rd, .inr (5, [.ref tp, .ref kk, .ref sa, .int (nI L), .int (nI q_16), .int (nI q_19), .int tk_19, .int vl_19, .int fn_19, .int fp_19])), (tp, wInt (cy 0) 60 f), (kk, wRef (cy 2) 6 KF), ((kd 1), .inr (3, [])), ((kd 2), .inr (4, [])), ((kd 3), .inr (9, [])), ((kd 4), .inr (6, [])), ((kd 5), .inr (1, [])), (sa, .inr (8, [.ref (sb 0), .ref (sb 1), .ref (sb 2), .ref (sb 3), .int (t 1), .int (t 2), .int (t 3), .int (t 0)])), ((sb 0), wRef (cy 2) 8 S), ((sb 1), wInt (cy 0) 8 (fun j => t (13 + j))), ((sb 2), wInt (cy 0) 8 (fun j => t (21 + j))), ((sb 3), wInt (cy 0) 8 (fun j => t (29 + j)))]) := hD
            refine ifneB (tgt := 101) hx hb dX6_readCard_96 (by decide) (fun c96 => ?_) (fun c96 => ?_)
            · replace c96 : (tokK f L q_16 = -1 ∧ (nI 0) ≤ tokN f L q_16 ∧ tokN f L q_16 ≤ (nI 7)) := c96
              have ev_19 := hw21.2.1 c96.1
              subst ev_19
              refine lv_aload_n hx hb dX6_readCard_101 rfl (lv_at hl 3 rfl) ?_
              refine va_get (ci := 5) (v := .int (tokN f L q_16)) (C := RX6) (T := TX6) (N := 10) hx hb hts hinX6 hown hK hP 0 rfl rfl 7 (by decide) hf54 (fun _ h9 => h9) rfl dX6_readCard_102 ?_
              refine lv_iload_n hx hb dX6_readCard_105 rfl (lv_at hl 1 rfl) ?_
              refine lv_icmp_ne (tgt := 115) hx hb dX6_readCard_106 (by decide) (fun c106 => ?_) (fun c106 => ?_)
              · refine lv_aload_n hx hb dX6_readCard_115 rfl (lv_at hl 3 rfl) ?_
                refine va_get (ci := 5) (v := .ref sa) (C := RX6) (T := TX6) (N := 10) hx hb hts hinX6 hown hK hP 0 rfl rfl 2 (by decide) hf18 (fun _ h9 => h9) rfl dX6_readCard_116 ?_
                refine lv_aload_n hx hb dX6_readCard_119 rfl (lv_at hl 2 rfl) ?_
                refine lv_iload_n hx hb dX6_readCard_120 rfl (lv_at hl 0 rfl) ?_
                refine lv_aload_n hx hb dX6_readCard_121 rfl (lv_at hl 3 rfl) ?_
                refine va_get (ci := 5) (v := .int (tokN f L q_16)) (C := RX6) (T := TX6) (N := 10) hx hb hts hinX6 hown hK hP 0 rfl rfl 7 (by decide) hf54 (fun _ h9 => h9) rfl dX6_readCard_122 ?_
                refine call_v (wr := [(rd, .inr (5, [.ref tp, .ref kk, .ref sa, .int (nI L), .int (nI q_16), .int (nI q_19), .int tk_19, .int (tokN f L q_16), .int fn_19, .int fp_19])), (tp, wInt (cy 0) 60 f), (kk, wRef (cy 2) 6 KF)]) (ws' := (fun u22 : (Nat → Option Nat) × (Nat → Int32) => [(rd, .inr (5, [.ref tp, .ref kk, .ref sa, .int (nI L), .int (nI q_16), .int (nI q_19), .int tk_19, .int (tokN f L q_16), .int fn_19, .int fp_19])), (tp, wInt (cy 0) 60 f), (kk, wRef (cy 2) 6 KF), ((kd 1), .inr (3, [])), ((kd 2), .inr (4, [])), ((kd 3), .inr (9, [])), ((kd 4), .inr (6, [])), ((kd 5), .inr (1, [])), (sa, .inr (8, [.ref (sb 0), .ref (sb 1), .ref (sb 2), .ref (sb 3), .int (u22.2 1), .int (u22.2 2), .int (u22.2 3), .int (u22.2 0)])), ((sb 0), wRef (cy 2) 8 u22.1), ((sb 1), wInt (cy 0) 8 (fun j => u22.2 (13 + j))), ((sb 2), wInt (cy 0) 8 (fun j => u22.2 (21 + j))), ((sb 3), wInt (cy 0) 8 (fun j => u22.2 (29 + j)))])) (va_runV (As := [.ref (kd sk), .int (tokN f L ((tokP f L p))), .int (tokN f L q_16)]) (rest := []) CF (k_X9_join l D cy _ kd sk sa sb S t (tokN f L ((tokP f L p))) (tokN f L q_16) n (by first | assumption | omega | decide) (by first | assumption | omega | decide) (by first | assumption | omega | decide) (by first | assumption | omega | decide)) (cwV 3 hts gX6_readCard_X9_join rfl rfl rfl (by decide +kernel) ⟨Nat.le_of_ble_eq_true rfl, Nat.le_of_ble_eq_true rfl⟩) (pre_V hKN hP hD [3, 4, 5, 6, 7, 8, 9, 10, 11, 12] rfl (by decide) 8 8 rfl rfl) rfl rfl hl.1 rfl (lv_room (Nat.le_of_ble_eq_true rfl)) dX6_readCard_125 ⟨Nat.le_of_ble_eq_true rfl, Nat.le_of_ble_eq_true rfl⟩) hS hA hP hD [3, 4, 5, 6, 7, 8, 9, 10, 11, 12] [0, 1, 2] [0, 1, 2, 3, 4, 5, 6, 7, 8, 9, 10, 11, 12] rfl rfl (by decide) (by decide) (fun _ => rfl) (by decide) (fun u22 H locs hw24 hP hD hS => ?_)
                replace hw24 := hw24.symm; subst hw24
                have hP : va_P D vwCl ([(rd, .inr (5, [.ref tp, .ref kk, .ref sa, .int (nI L), .int (nI q_16), .int (nI q_19), .int tk_19, .int (tokN f L q_16), .int fn_19, .int fp_19])), (tp, wInt (cy 0) 60 f), (kk, wRef (cy 2) 6 KF), ((kd 1), .inr (3, [])), ((kd 2), .inr (4, [])), ((kd 3), .inr (9, [])), ((kd 4), .inr (6, [])), ((kd 5), .inr (1, [])), (sa, .inr (8, [.ref (sb 0), .ref (sb 1), .ref (sb 2), .ref (sb 3), .int ((jnA t n (tokN f L ((tokP f L p))) sk (tokN f L q_16)) 1), .int ((jnA t n (tokN f L ((tokP f L p))) sk (tokN f L q_16)) 2), .int ((jnA t n (tokN f L ((tokP f L p))) sk (tokN f L q_16)) 3), .int ((jnA t n (tokN f L ((tokP f L p))) sk (tokN f L q_16)) 0)])), ((sb 0), wRef (cy 2) 8 (va_up S n (some (kd sk)))), ((sb 1), wInt (cy 0) 8 (fun j => (jnA t n (tokN f L ((tokP f L p))) sk (tokN f L q_16)) (13 + j))), ((sb 2), wInt (cy 0) 8 (fun j => (jnA t n (tokN f L ((tokP f L p))) sk (tokN f L q_16)) (21 + j))), ((sb 3), wInt (cy 0) 8 (fun j => (jnA t n (tokN f L ((tokP f L p))) sk (tokN f L q_16)) (29 + j)))]) H := hP
                have hD : va_D A_ ([(rd, .inr (5, [.ref tp, .ref kk, .ref sa, .int (nI L), .int (nI q_16), .int (nI q_19), .int tk_19, .int (tokN f L q_16), .int fn_19, .int fp_19])), (tp, wInt (cy 0) 60 f), (kk, wRef (cy 2) 6 KF), ((kd 1), .inr (3, [])), ((kd 2), .inr (4, [])), ((kd 3), .inr (9, [])), ((kd 4), .inr (6, [])), ((kd 5), .inr (1, [])), (sa, .inr (8, [.ref (sb 0), .ref (sb 1), .ref (sb 2), .ref (sb 3), .int ((jnA t n (tokN f L ((tokP f L p))) sk (tokN f L q_16)) 1), .int ((jnA t n (tokN f L ((tokP f L p))) sk (tokN f L q_16)) 2), .int ((jnA t n (tokN f L ((tokP f L p))) sk (tokN f L q_16)) 3), .int ((jnA t n (tokN f L ((tokP f L p))) sk (tokN f L q_16)) 0)])), ((sb 0), wRef (cy 2) 8 (va_up S n (some (kd sk)))), ((sb 1), wInt (cy 0) 8 (fun j => (jnA t n (tokN f L ((tokP f L p))) sk (tokN f L q_16)) (13 + j))), ((sb 2), wInt (cy 0) 8 (fun j => (jnA t n (tokN f L ((tokP f L p))) sk (tokN f L q_16)) (21 + j))), ((sb 3), wInt (cy 0) 8 (fun j => (jnA t n (tokN f L ((tokP f L p))) sk (tokN f L q_16)) (29 + j)))]) := hD
                refine lv_aload_n hx hb dX6_readCard_128 rfl (lv_at hl 3 rfl) ?_
                refine lv_bipush (v := nI 59) hx hb dX6_readCard_129 (by decide) ?_
                refine call_i (wr := [(kk, wRef (cy 2) 6 KF), ((kd 1), .inr (3, [])), ((kd 2), .inr (4, [])), ((kd 3), .inr (9, [])), ((kd 4), .inr (6, [])), ((kd 5), .inr (1, [])), (sa, .inr (8, [.ref (sb 0), .ref (sb 1), .ref (sb 2), .ref (sb 3), .int ((jnA t n (tokN f L ((tokP f L p))) sk (tokN f L q_16)) 1), .int ((jnA t n (tokN f L ((tokP f L p))) sk (tokN f L q_16)) 2), .int ((jnA t n (tokN f L ((tokP f L p))) sk (tokN f L q_16)) 3), .int ((jnA t n (tokN f L ((tokP f L p))) sk (tokN f L q_16)) 0)])), ((sb 0), wRef (cy 2) 8 (va_up S n (some (kd sk)))), ((sb 1), wInt (cy 0) 8 (fun j => (jnA t n (tokN f L ((tokP f L p))) sk (tokN f L q_16)) (13 + j))), ((sb 2), wInt (cy 0) 8 (fun j => (jnA t n (tokN f L ((tokP f L p))) sk (tokN f L q_16)) (21 + j))), ((sb 3), wInt (cy 0) 8 (fun j => (jnA t n (tokN f L ((tokP f L p))) sk (tokN f L q_16)) (29 + j)))]) (ws' := (fun u25 : Nat × Int32 × Int32 × Int32 × Int32 => [(rd, .inr (5, [.ref tp, .ref kk, .ref sa, .int (nI L), .int (nI q_19), .int (nI (u25.1)), .int u25.2.1, .int u25.2.2.1, .int u25.2.2.2.1, .int u25.2.2.2.2])), (tp, wInt (cy 0) 60 f), (kk, wRef (cy 2) 6 KF), ((kd 1), .inr (3, [])), ((kd 2), .inr (4, [])), ((kd 3), .inr (9, [])), ((kd 4), .inr (6, [])), ((kd 5), .inr (1, [])), (sa, .inr (8, [.ref (sb 0), .ref (sb 1), .ref (sb 2), .ref (sb 3), .int ((jnA t n (tokN f L ((tokP f L p))) sk (tokN f L q_16)) 1), .int ((jnA t n (tokN f L ((tokP f L p))) sk (tokN f L q_16)) 2), .int ((jnA t n (tokN f L ((tokP f L p))) sk (tokN f L q_16)) 3), .int ((jnA t n (tokN f L ((tokP f L p))) sk (tokN f L q_16)) 0)])), ((sb 0), wRef (cy 2) 8 (va_up S n (some (kd sk)))), ((sb 1), wInt (cy 0) 8 (fun j => (jnA t n (tokN f L ((tokP f L p))) sk (tokN f L q_16)) (13 + j))), ((sb 2), wInt (cy 0) 8 (fun j => (jnA t n (tokN f L ((tokP f L p))) sk (tokN f L q_16)) (21 + j))), ((sb 3), wInt (cy 0) 8 (fun j => (jnA t n (tokN f L ((tokP f L p))) sk (tokN f L q_16)) (29 + j)))])) (va_runV (As := [.int (nI 59)]) (rest := []) CF (k_X6_readSign l D cy _ rd tp kk sa L (nI q_16) q_19 tk_19 (tokN f L q_16) fn_19 fp_19 f (nI 59) (by first | assumption | omega | decide) (by first | assumption | omega | decide) (by decide) (by decide)) (cwV 1 hts gX6_readCard_X6_readSign rfl rfl rfl (by decide +kernel) ⟨Nat.le_of_ble_eq_true rfl, Nat.le_of_ble_eq_true rfl⟩) (pre_V hKN hP hD [0, 1] rfl (by decide) 0 5 rfl rfl) rfl rfl hl.1 rfl (lv_room (Nat.le_of_ble_eq_true rfl)) dX6_readCard_131 ⟨Nat.le_of_ble_eq_true rfl, Nat.le_of_ble_eq_true rfl⟩) hS hA hP hD [0, 1] [2, 3, 4, 5, 6, 7, 8, 9, 10, 11, 12] [11, 12, 0, 1, 2, 3, 4, 5, 6, 7, 8, 9, 10] rfl rfl (by decide) (by decide) (fun _ => rfl) (by decide) (fun r26 u25 H locs hw27 hP hD hS => ?_)
                obtain ⟨hw27a, hw27⟩ := hw27
                replace hw27a := hw27a.symm; subst hw27a
                obtain ⟨q_25, tk_25, vl_25, fn_25, fp_25⟩ := u25
                try dsimp only at hw27
                have le_25 : q_25 ≤ L := (by rw [hw27.1]; exact tokP_le (by first | assumption | exact Nat.zero_le _))
                have hP : va_P D vwCl ([(rd, .inr (5, [.ref tp, .ref kk, .ref sa, .int (nI L), .int (nI q_19), .int (nI q_25), .int tk_25, .int vl_25, .int fn_25, .int fp_25])), (tp, wInt (cy 0) 60 f), (kk, wRef (cy 2) 6 KF), ((kd 1), .inr (3, [])), ((kd 2), .inr (4, [])), ((kd 3), .inr (9, [])), ((kd 4), .inr (6, [])), ((kd 5), .inr (1, [])), (sa, .inr (8, [.ref (sb 0), .ref (sb 1), .ref (sb 2), .ref (sb 3), .int ((jnA t n (tokN f L ((tokP f L p))) sk (tokN f L q_16)) 1), .int ((jnA t n (tokN f L ((tokP f L p))) sk (tokN f L q_16)) 2), .int ((jnA t n (tokN f L ((tokP f L p))) sk (tokN f L q_16)) 3), .int ((jnA t n (tokN f L ((tokP f L p))) sk (tokN f L q_16)) 0)])), ((sb 0), wRef (cy 2) 8 (va_up S n (some (kd sk)))), ((sb 1), wInt (cy 0) 8 (fun j => (jnA t n (tokN f L ((tokP f L p))) sk (tokN f L q_16)) (13 + j))), ((sb 2), wInt (cy 0) 8 (fun j => (jnA t n (tokN f L ((tokP f L p))) sk (tokN f L q_16)) (21 + j))), ((sb 3), wInt (cy 0) 8 (fun j => (jnA t n (tokN f L ((tokP f L p))) sk (tokN f L q_16)) (29 + j)))]) H := hP
                have hD : va_D A_ ([(rd, .inr (5, [.ref tp, .ref kk, .ref sa, .int (nI L), .int (nI q_19), .int (nI q_25), .int tk_25, .int vl_25, .int fn_25, .int fp_25])), (tp, wInt (cy 0) 60 f), (kk, wRef (cy 2) 6 KF), ((kd 1), .inr (3, [])), ((kd 2), .inr (4, [])), ((kd 3), .inr (9, [])), ((kd 4), .inr (6, [])), ((kd 5), .inr (1, [])), (sa, .inr (8, [.ref (sb 0), .ref (sb 1), .ref (sb 2), .ref (sb 3), .int ((jnA t n (tokN f L ((tokP f L p))) sk (tokN f L q_16)) 1), .int ((jnA t n (tokN f L ((tokP f L p))) sk (tokN f L q_16)) 2), .int ((jnA t n (tokN f L ((tokP f L p))) sk (tokN f L q_16)) 3), .int ((jnA t n (tokN f L ((tokP f L p))) sk (tokN f L q_16)) 0)])), ((sb 0), wRef (cy 2) 8 (va_up S n (some (kd sk)))), ((sb 1), wInt (cy 0) 8 (fun j => (jnA t n (tokN f L ((tokP f L p))) sk (tokN f L q_16)) (13 + j))), ((sb 2), wInt (cy 0) 8 (fun j => (jnA t n (tokN f L ((tokP f L p))) sk (tokN f L q_16)) (21 + j))), ((sb 3), wInt (cy 0) 8 (fun j => (jnA t n (tokN f L ((tokP f L p))) sk (tokN f L q_16)) (29 + j)))]) := hD
                exact ret _ (nI q_19, q_25, tk_25, vl_25, fn_25, fp_25, va_up S n (some (kd sk)), (jnA t n (tokN f L ((tokP f L p))) sk (tokN f L q_16))) _ _ _ _ dX6_readCard_134 bI_nar (by have l2 : q_10 = lp f L p 2 := hw12.1; have l3 : q_16 = lp f L p 3 := (by rw [hw18.1, l2]; rfl); have l4 : q_19 = lp f L p 4 := (by rw [hw21.1, l3]; rfl); have l5 : q_25 = lp f L p 5 := (by rw [hw27.1, l4]; rfl); subst l2; subst l3; subst l4; subst l5; subst esk; exact qx (crdQ8 s0 (by omega) c53 (Int32.not_le.mp c71) c86 c96 c106 (fun z => ⟨rfl, rfl, rfl, (by rw [hw27.2.2.1, if_pos z, hw21.2.2.1, if_neg (nn c96.1), if_pos c96.2, hw18.2.2.1, if_pos c86, hw12.2.2.1, if_neg (nn c53.1), if_pos c53.2])⟩) (fun z => ⟨hw27.2.2.1.trans (if_neg z), hw27.2.2.2.trans (if_neg z)⟩)) (anyS.up hS8 (by omega) (by omega))) hP hD hS
              · refine lv_aload_n hx hb dX6_readCard_109 rfl (lv_at hl 3 rfl) ?_
                refine lv_iconst (v := nI 2) hx hb dX6_readCard_110 (by decide) ?_
                refine call_i (wr := [(tp, wInt (cy 0) 60 f), (kk, wRef (cy 2) 6 KF), ((kd 1), .inr (3, [])), ((kd 2), .inr (4, [])), ((kd 3), .inr (9, [])), ((kd 4), .inr (6, [])), ((kd 5), .inr (1, [])), (sa, .inr (8, [.ref (sb 0), .ref (sb 1), .ref (sb 2), .ref (sb 3), .int (t 1), .int (t 2), .int (t 3), .int (t 0)])), ((sb 0), wRef (cy 2) 8 S), ((sb 1), wInt (cy 0) 8 (fun j => t (13 + j))), ((sb 2), wInt (cy 0) 8 (fun j => t (21 + j))), ((sb 3), wInt (cy 0) 8 (fun j => t (29 + j)))]) (ws' := (fun _ : Unit => [(rd, .inr (5, [.ref tp, .ref kk, .ref sa, .int (nI L), .int (nI q_16), .int (nI q_19), .int tk_19, .int (tokN f L q_16), .int (nI 2), .int (nI q_16)])), (tp, wInt (cy 0) 60 f), (kk, wRef (cy 2) 6 KF), ((kd 1), .inr (3, [])), ((kd 2), .inr (4, [])), ((kd 3), .inr (9, [])), ((kd 4), .inr (6, [])), ((kd 5), .inr (1, [])), (sa, .inr (8, [.ref (sb 0), .ref (sb 1), .ref (sb 2), .ref (sb 3), .int (t 1), .int (t 2), .int (t 3), .int (t 0)])), ((sb 0), wRef (cy 2) 8 S), ((sb 1), wInt (cy 0) 8 (fun j => t (13 + j))), ((sb 2), wInt (cy 0) 8 (fun j => t (21 + j))), ((sb 3), wInt (cy 0) 8 (fun j => t (29 + j)))])) (va_runV (As := [.int (nI 2)]) (rest := []) CF (k_X6_failWith l D cy _ rd tp kk sa L (nI q_16) q_19 tk_19 (tokN f L q_16) fn_19 fp_19 2 ) (cwV 1 hts gX6_readCard_X6_failWith rfl rfl rfl (by decide +kernel) ⟨Nat.le_of_ble_eq_true rfl, Nat.le_of_ble_eq_true rfl⟩) (pre_V hKN hP hD [0] rfl (by decide) 0 5 rfl rfl) rfl rfl hl.1 rfl (lv_room (Nat.le_of_ble_eq_true rfl)) dX6_readCard_111 ⟨Nat.le_of_ble_eq_true rfl, Nat.le_of_ble_eq_true rfl⟩) hS hA hP hD [0] [1, 2, 3, 4, 5, 6, 7, 8, 9, 10, 11, 12] [12, 0, 1, 2, 3, 4, 5, 6, 7, 8, 9, 10, 11] rfl rfl (by decide) (by decide) (fun _ => rfl) (by decide) (fun r29 u28 H locs hw30 hP hD hS => ?_)
                replace hw30 := hw30.symm; subst hw30
                exact ret _ (nI q_16, q_19, tk_19, (tokN f L q_16), nI 2, (nI q_16), S, t) _ _ _ _ dX6_readCard_114 rfl (by have l2 : q_10 = lp f L p 2 := hw12.1; have l3 : q_16 = lp f L p 3 := (by rw [hw18.1, l2]; rfl); have l4 : q_19 = lp f L p 4 := (by rw [hw21.1, l3]; rfl); subst l2; subst l3; subst l4; exact qx (crdQ6 s0 (by omega) c53 (Int32.not_le.mp c71) c86 c96 c106) hS8) hP hD hS
            · replace c96 : ¬ (tokK f L q_16 = -1 ∧ (nI 0) ≤ tokN f L q_16 ∧ tokN f L q_16 ≤ (nI 7)) := c96
              refine lv_iconst (v := nI 0) hx hb dX6_readCard_99 (by decide) ?_
              exact ret _ (nI q_16, q_19, tk_19, vl_19, fn_19, fp_19, S, t) _ _ _ _ dX6_readCard_100 rfl (by have l2 : q_10 = lp f L p 2 := hw12.1; have l3 : q_16 = lp f L p 3 := (by rw [hw18.1, l2]; rfl); have l4 : q_19 = lp f L p 4 := (by rw [hw21.1, l3]; rfl); subst l2; subst l3; subst l4; exact qx (crdQ5 s0 (by omega) c53 (Int32.not_le.mp c71) c86 c96 ⟨hw21.2.2.1.trans (numX_e c96), hw21.2.2.2.trans (if_neg c96)⟩) hS8) hP hD hS
        · replace c71 : ¬ (¬ t 2 ≤ fillN t (tokN f L ((tokP f L p))) n) := c71
          refine lv_aload_n hx hb dX6_readCard_74 rfl (lv_at hl 3 rfl) ?_
          refine lv_iconst (v := nI 2) hx hb dX6_readCard_75 (by decide) ?_
          refine call_i (wr := [(tp, wInt (cy 0) 60 f), (kk, wRef (cy 2) 6 KF), ((kd 1), .inr (3, [])), ((kd 2), .inr (4, [])), ((kd 3), .inr (9, [])), ((kd 4), .inr (6, [])), ((kd 5), .inr (1, [])), (sa, .inr (8, [.ref (sb 0), .ref (sb 1), .ref (sb 2), .ref (sb 3), .int (t 1), .int (t 2), .int (t 3), .int (t 0)])), ((sb 0), wRef (cy 2) 8 S), ((sb 1), wInt (cy 0) 8 (fun j => t (13 + j))), ((sb 2), wInt (cy 0) 8 (fun j => t (21 + j))), ((sb 3), wInt (cy 0) 8 (fun j => t (29 + j)))]) (ws' := (fun _ : Unit => [(rd, .inr (5, [.ref tp, .ref kk, .ref sa, .int (nI L), .int (nI ((tokP f L p))), .int (nI q_10), .int tk_10, .int (tokN f L ((tokP f L p))), .int (nI 2), .int (nI ((tokP f L p)))])), (tp, wInt (cy 0) 60 f), (kk, wRef (cy 2) 6 KF), ((kd 1), .inr (3, [])), ((kd 2), .inr (4, [])), ((kd 3), .inr (9, [])), ((kd 4), .inr (6, [])), ((kd 5), .inr (1, [])), (sa, .inr (8, [.ref (sb 0), .ref (sb 1), .ref (sb 2), .ref (sb 3), .int (t 1), .int (t 2), .int (t 3), .int (t 0)])), ((sb 0), wRef (cy 2) 8 S), ((sb 1), wInt (cy 0) 8 (fun j => t (13 + j))), ((sb 2), wInt (cy 0) 8 (fun j => t (21 + j))), ((sb 3), wInt (cy 0) 8 (fun j => t (29 + j)))])) (va_runV (As := [.int (nI 2)]) (rest := []) CF (k_X6_failWith l D cy _ rd tp kk sa L (nI ((tokP f L p))) q_10 tk_10 (tokN f L ((tokP f L p))) fn_10 fp_10 2 ) (cwV 1 hts gX6_readCard_X6_failWith rfl rfl rfl (by decide +kernel) ⟨Nat.le_of_ble_eq_true rfl, Nat.le_of_ble_eq_true rfl⟩) (pre_V hKN hP hD [0] rfl (by decide) 0 5 rfl rfl) rfl rfl hl.1 rfl (lv_room (Nat.le_of_ble_eq_true rfl)) dX6_readCard_76 ⟨Nat.le_of_ble_eq_true rfl, Nat.le_of_ble_eq_true rfl⟩) hS hA hP hD [0] [1, 2, 3, 4, 5, 6, 7, 8, 9, 10, 11, 12] [12, 0, 1, 2, 3, 4, 5, 6, 7, 8, 9, 10, 11] rfl rfl (by decide) (by decide) (fun _ => rfl) (by decide) (fun r32 u31 H locs hw33 hP hD hS => ?_)
          replace hw33 := hw33.symm; subst hw33
          exact ret _ (nI ((tokP f L p)), q_10, tk_10, (tokN f L ((tokP f L p))), nI 2, (nI ((tokP f L p))), S, t) _ _ _ _ dX6_readCard_79 rfl (by have l2 : q_10 = lp f L p 2 := hw12.1; subst l2; exact qx (crdQ3 s0 (by omega) c53 (fun z => c71 (Int32.not_le.mpr z))) hS8) hP hD hS
      · replace c53 : ¬ (tokK f L (tokP f L p) = -1 ∧ (nI 0) ≤ tokN f L (tokP f L p) ∧ tokN f L (tokP f L p) ≤ (t 1 - nI 1)) := c53
        refine lv_iconst (v := nI 0) hx hb dX6_readCard_56 (by decide) ?_
        exact ret _ (nI ((tokP f L p)), q_10, tk_10, vl_10, fn_10, fp_10, S, t) _ _ _ _ dX6_readCard_57 rfl (by have l2 : q_10 = lp f L p 2 := hw12.1; subst l2; exact qx (crdQ2 s0 (by omega) c53 ⟨hw12.2.2.1.trans (numX_e c53), hw12.2.2.2.trans (if_neg c53)⟩) hS8) hP hD hS
    · refine lv_aload_n hx hb dX6_readCard_33 rfl (lv_at hl 2 rfl) ?_
      refine lv_iconst (v := nI 3) hx hb dX6_readCard_34 (by decide) ?_
      refine call_i (wr := [(tp, wInt (cy 0) 60 f), (kk, wRef (cy 2) 6 KF), ((kd 1), .inr (3, [])), ((kd 2), .inr (4, [])), ((kd 3), .inr (9, [])), ((kd 4), .inr (6, [])), ((kd 5), .inr (1, [])), (sa, .inr (8, [.ref (sb 0), .ref (sb 1), .ref (sb 2), .ref (sb 3), .int (t 1), .int (t 2), .int (t 3), .int (t 0)])), ((sb 0), wRef (cy 2) 8 S), ((sb 1), wInt (cy 0) 8 (fun j => t (13 + j))), ((sb 2), wInt (cy 0) 8 (fun j => t (21 + j))), ((sb 3), wInt (cy 0) 8 (fun j => t (29 + j)))]) (ws' := (fun _ : Unit => [(rd, .inr (5, [.ref tp, .ref kk, .ref sa, .int (nI L), .int (nI p), .int (nI ((tokP f L p))), .int (cK f L p), .int (vlC f L p w7), .int (nI 3), .int (nI p)])), (tp, wInt (cy 0) 60 f), (kk, wRef (cy 2) 6 KF), ((kd 1), .inr (3, [])), ((kd 2), .inr (4, [])), ((kd 3), .inr (9, [])), ((kd 4), .inr (6, [])), ((kd 5), .inr (1, [])), (sa, .inr (8, [.ref (sb 0), .ref (sb 1), .ref (sb 2), .ref (sb 3), .int (t 1), .int (t 2), .int (t 3), .int (t 0)])), ((sb 0), wRef (cy 2) 8 S), ((sb 1), wInt (cy 0) 8 (fun j => t (13 + j))), ((sb 2), wInt (cy 0) 8 (fun j => t (21 + j))), ((sb 3), wInt (cy 0) 8 (fun j => t (29 + j)))])) (va_runV (As := [.int (nI 3)]) (rest := []) CF (k_X6_failWith l D cy _ rd tp kk sa L (nI p) (tokP f L p) (cK f L p) (vlC f L p w7) w8 w9 3 ) (cwV 1 hts gX6_readCard_X6_failWith rfl rfl rfl (by decide +kernel) ⟨Nat.le_of_ble_eq_true rfl, Nat.le_of_ble_eq_true rfl⟩) (pre_V hKN hP hD [0] rfl (by decide) 0 5 rfl rfl) rfl rfl hl.1 rfl (lv_room (Nat.le_of_ble_eq_true rfl)) dX6_readCard_35 ⟨Nat.le_of_ble_eq_true rfl, Nat.le_of_ble_eq_true rfl⟩) hS hA hP hD [0] [1, 2, 3, 4, 5, 6, 7, 8, 9, 10, 11, 12] [12, 0, 1, 2, 3, 4, 5, 6, 7, 8, 9, 10, 11] rfl rfl (by decide) (by decide) (fun _ => rfl) (by decide) (fun r35 u34 H locs hw36 hP hD hS => ?_)
      replace hw36 := hw36.symm; subst hw36
      exact ret _ (nI p, (tokP f L p), (cK f L p), (vlC f L p w7), nI 3, (nI p), S, t) _ _ _ _ dX6_readCard_38 rfl (qx (crdQ1 s0 (by omega)) hS8) hP hD hS
set_option maxHeartbeats 4000000 in
set_option maxRecDepth 100000 in
theorem k_X6_readTape (l : Launch) (D : va_G) (cy : Nat → ClassId) (sz : Nat) (rd : Nat) (tp : Nat) (kk : Nat) (sa : Nat) (L : Nat) (w4 : Int32) (p : Nat) (w6 : Int32) (w7 : Int32) (w8 : Int32) (w9 : Int32) (f : Nat → Int32) (KF : Nat → Option Nat) (kd : Nat → Nat) (sb : Nat → Nat) (S : Nat → Option Nat) (t : Nat → Int32) (hL : L ≤ 60) (hKF : ∀ k, 1 ≤ k → k ≤ 5 → KF k = some (kd k)) (hS8 : ∀ j, j < 8 → anyS kd (S j)) : Met l yX6_readTape wsX6_readTape (rmD 5) (pPre D (TY cy) ([(rd, .inr (5, [.ref tp, .ref kk, .ref sa, .int (nI L), .int w4, .int (nI p), .int w6, .int w7, .int w8, .int w9])), (tp, wInt (cy 0) 60 f), (kk, wRef (cy 2) 6 KF), ((kd 1), .inr (3, [])), ((kd 2), .inr (4, [])), ((kd 3), .inr (9, [])), ((kd 4), .inr (6, [])), ((kd 5), .inr (1, [])), (sa, .inr (8, [.ref (sb 0), .ref (sb 1), .ref (sb 2), .ref (sb 3), .int (t 1), .int (t 2), .int (t 3), .int (t 0)])), ((sb 0), wRef (cy 2) 8 S), ((sb 1), wInt (cy 0) 8 (fun j => t (13 + j))), ((sb 2), wInt (cy 0) 8 (fun j => t (21 + j))), ((sb 3), wInt (cy 0) 8 (fun j => t (29 + j)))]) sz [.ref rd]) (pV D (TY cy) ([(rd, .inr (5, [.ref tp, .ref kk, .ref sa, .int (nI L), .int w4, .int (nI p), .int w6, .int w7, .int w8, .int w9])), (tp, wInt (cy 0) 60 f), (kk, wRef (cy 2) 6 KF), ((kd 1), .inr (3, [])), ((kd 2), .inr (4, [])), ((kd 3), .inr (9, [])), ((kd 4), .inr (6, [])), ((kd 5), .inr (1, [])), (sa, .inr (8, [.ref (sb 0), .ref (sb 1), .ref (sb 2), .ref (sb 3), .int (t 1), .int (t 2), .int (t 3), .int (t 0)])), ((sb 0), wRef (cy 2) 8 S), ((sb 1), wInt (cy 0) 8 (fun j => t (13 + j))), ((sb 2), wInt (cy 0) 8 (fun j => t (21 + j))), ((sb 3), wInt (cy 0) 8 (fun j => t (29 + j)))]) sz (fun u : Int32 × Nat × Int32 × Int32 × Int32 × Int32 × (Nat → Option Nat) × (Nat → Int32) => [(rd, .inr (5, [.ref tp, .ref kk, .ref sa, .int (nI 0), .int u.1, .int (nI u.2.1), .int u.2.2.1, .int u.2.2.2.1, .int u.2.2.2.2.1, .int u.2.2.2.2.2.1])), (tp, wInt (cy 0) 60 f), (kk, wRef (cy 2) 6 KF), ((kd 1), .inr (3, [])), ((kd 2), .inr (4, [])), ((kd 3), .inr (9, [])), ((kd 4), .inr (6, [])), ((kd 5), .inr (1, [])), (sa, .inr (8, [.ref (sb 0), .ref (sb 1), .ref (sb 2), .ref (sb 3), .int (u.2.2.2.2.2.2.2 1), .int (u.2.2.2.2.2.2.2 2), .int (u.2.2.2.2.2.2.2 3), .int (u.2.2.2.2.2.2.2 0)])), ((sb 0), wRef (cy 2) 8 u.2.2.2.2.2.2.1), ((sb 1), wInt (cy 0) 8 (fun j => u.2.2.2.2.2.2.2 (13 + j))), ((sb 2), wInt (cy 0) 8 (fun j => u.2.2.2.2.2.2.2 (21 + j))), ((sb 3), wInt (cy 0) 8 (fun j => u.2.2.2.2.2.2.2 (29 + j)))]) (fun (u : Int32 × Nat × Int32 × Int32 × Int32 × Int32 × (Nat → Option Nat) × (Nat → Int32)) => (∀ j, j < 8 → anyS kd (u.2.2.2.2.2.2.1 j)) ∧ rtN kd f L u.2.2.2.2.2.2.1 u.2.2.2.2.2.2.2 u.2.2.2.2.1 u.2.2.2.2.2.1)) 0 0 (va_A ([(rd, .inr (5, [.ref tp, .ref kk, .ref sa, .int (nI L), .int w4, .int (nI p), .int w6, .int w7, .int w8, .int w9])), (tp, wInt (cy 0) 60 f), (kk, wRef (cy 2) 6 KF), ((kd 1), .inr (3, [])), ((kd 2), .inr (4, [])), ((kd 3), .inr (9, [])), ((kd 4), .inr (6, [])), ((kd 5), .inr (1, [])), (sa, .inr (8, [.ref (sb 0), .ref (sb 1), .ref (sb 2), .ref (sb 3), .int (t 1), .int (t 2), .int (t 3), .int (t 0)])), ((sb 0), wRef (cy 2) 8 S), ((sb 1), wInt (cy 0) 8 (fun j => t (13 + j))), ((sb 2), wInt (cy 0) 8 (fun j => t (21 + j))), ((sb 3), wInt (cy 0) 8 (fun j => t (29 + j)))]) sz) := by
  refine ent_v (cc := cX6_readTape) (maxL := 3) (by decide +kernel) rfl (Nat.le_of_ble_eq_true rfl) ?_
  intro p_ e_ s_ m_ args_ below_ meth_ c_ A_ Q_ ls B0 ret
  obtain ⟨CF, hA, hKN, hP, hD, hl⟩ := B0
  have hK := hKN.1
  obtain ⟨hx, hb, hml, hown, hts⟩ := id CF
  have hS : va_S A_ s_.heap s_.heap [] := va_S.rf
  have hl : lv_has ls 3 [(0, .ref rd)] := hl
  have hf34 := hts (.fieldLink RX6 34 "DrawerCards$Reader" "behind" "I") (by decide +kernel)
  have hinX6 := show ∀ w ∈ u_ws RX6 TX6 10, w ∈ wsX6_readTape from by decide +kernel
  have hf37 := hts (.fieldLink RX6 37 "DrawerCards$Reader" "faultNumber" "I") (by decide +kernel)
  have hf26 := hts (.fieldLink RX6 26 "DrawerCards$Reader" "length" "I") (by decide +kernel)
  refine lv_aload_n hx hb dX6_readTape_0 rfl (lv_at hl 0 rfl) ?_
  refine lv_iconst (v := nI 0) hx hb dX6_readTape_1 (by decide) ?_
  refine va_put (ci := 5) (v := .int (nI 0)) (ty := .int) (C := RX6) (T := TX6) (N := 10) hx hb hts hinX6 tyX6 tyX6_ok nmX6 hown hK hP hD hS 0 rfl rfl 5 (by decide) hf34 (fun _ h9 => h9) rfl (by decide +kernel) rfl rfl (Nat.le_of_ble_eq_true rfl) dX6_readTape_2 (fun H locs hP hD hS => ?_)
  have hP : va_P D vwCl ([(rd, .inr (5, [.ref tp, .ref kk, .ref sa, .int (nI L), .int w4, .int (nI 0), .int w6, .int w7, .int w8, .int w9])), (tp, wInt (cy 0) 60 f), (kk, wRef (cy 2) 6 KF), ((kd 1), .inr (3, [])), ((kd 2), .inr (4, [])), ((kd 3), .inr (9, [])), ((kd 4), .inr (6, [])), ((kd 5), .inr (1, [])), (sa, .inr (8, [.ref (sb 0), .ref (sb 1), .ref (sb 2), .ref (sb 3), .int (t 1), .int (t 2), .int (t 3), .int (t 0)])), ((sb 0), wRef (cy 2) 8 S), ((sb 1), wInt (cy 0) 8 (fun j => t (13 + j))), ((sb 2), wInt (cy 0) 8 (fun j => t (21 + j))), ((sb 3), wInt (cy 0) 8 (fun j => t (29 + j)))]) H := hP
  have hD : va_D A_ ([(rd, .inr (5, [.ref tp, .ref kk, .ref sa, .int (nI L), .int w4, .int (nI 0), .int w6, .int w7, .int w8, .int w9])), (tp, wInt (cy 0) 60 f), (kk, wRef (cy 2) 6 KF), ((kd 1), .inr (3, [])), ((kd 2), .inr (4, [])), ((kd 3), .inr (9, [])), ((kd 4), .inr (6, [])), ((kd 5), .inr (1, [])), (sa, .inr (8, [.ref (sb 0), .ref (sb 1), .ref (sb 2), .ref (sb 3), .int (t 1), .int (t 2), .int (t 3), .int (t 0)])), ((sb 0), wRef (cy 2) 8 S), ((sb 1), wInt (cy 0) 8 (fun j => t (13 + j))), ((sb 2), wInt (cy 0) 8 (fun j => t (21 + j))), ((sb 3), wInt (cy 0) 8 (fun j => t (29 + j)))]) := hD
  refine lv_aload_n hx hb dX6_readTape_5 rfl (lv_at hl 0 rfl) ?_
  refine lv_iconst (v := nI 0) hx hb dX6_readTape_6 (by decide) ?_
  refine va_put (ci := 5) (v := .int (nI 0)) (ty := .int) (C := RX6) (T := TX6) (N := 10) hx hb hts hinX6 tyX6 tyX6_ok nmX6 hown hK hP hD hS 0 rfl rfl 8 (by decide) hf37 (fun _ h9 => h9) rfl (by decide +kernel) rfl rfl (Nat.le_of_ble_eq_true rfl) dX6_readTape_7 (fun H locs hP hD hS => ?_)
  have hP : va_P D vwCl ([(rd, .inr (5, [.ref tp, .ref kk, .ref sa, .int (nI L), .int w4, .int (nI 0), .int w6, .int w7, .int (nI 0), .int w9])), (tp, wInt (cy 0) 60 f), (kk, wRef (cy 2) 6 KF), ((kd 1), .inr (3, [])), ((kd 2), .inr (4, [])), ((kd 3), .inr (9, [])), ((kd 4), .inr (6, [])), ((kd 5), .inr (1, [])), (sa, .inr (8, [.ref (sb 0), .ref (sb 1), .ref (sb 2), .ref (sb 3), .int (t 1), .int (t 2), .int (t 3), .int (t 0)])), ((sb 0), wRef (cy 2) 8 S), ((sb 1), wInt (cy 0) 8 (fun j => t (13 + j))), ((sb 2), wInt (cy 0) 8 (fun j => t (21 + j))), ((sb 3), wInt (cy 0) 8 (fun j => t (29 + j)))]) H := hP
  have hD : va_D A_ ([(rd, .inr (5, [.ref tp, .ref kk, .ref sa, .int (nI L), .int w4, .int (nI 0), .int w6, .int w7, .int (nI 0), .int w9])), (tp, wInt (cy 0) 60 f), (kk, wRef (cy 2) 6 KF), ((kd 1), .inr (3, [])), ((kd 2), .inr (4, [])), ((kd 3), .inr (9, [])), ((kd 4), .inr (6, [])), ((kd 5), .inr (1, [])), (sa, .inr (8, [.ref (sb 0), .ref (sb 1), .ref (sb 2), .ref (sb 3), .int (t 1), .int (t 2), .int (t 3), .int (t 0)])), ((sb 0), wRef (cy 2) 8 S), ((sb 1), wInt (cy 0) 8 (fun j => t (13 + j))), ((sb 2), wInt (cy 0) 8 (fun j => t (21 + j))), ((sb 3), wInt (cy 0) 8 (fun j => t (29 + j)))]) := hD
  refine lv_aload_n hx hb dX6_readTape_10 rfl (lv_at hl 0 rfl) ?_
  refine call_i (wr := [(kk, wRef (cy 2) 6 KF), ((kd 1), .inr (3, [])), ((kd 2), .inr (4, [])), ((kd 3), .inr (9, [])), ((kd 4), .inr (6, [])), ((kd 5), .inr (1, []))]) (ws' := (fun u1 : Int32 × Nat × Int32 × Int32 × Int32 × Int32 × (Nat → Int32) => [(rd, .inr (5, [.ref tp, .ref kk, .ref sa, .int (nI L), .int u1.1, .int (nI (u1.2.1)), .int u1.2.2.1, .int u1.2.2.2.1, .int u1.2.2.2.2.1, .int u1.2.2.2.2.2.1])), (tp, wInt (cy 0) 60 f), (kk, wRef (cy 2) 6 KF), ((kd 1), .inr (3, [])), ((kd 2), .inr (4, [])), ((kd 3), .inr (9, [])), ((kd 4), .inr (6, [])), ((kd 5), .inr (1, [])), (sa, .inr (8, [.ref (sb 0), .ref (sb 1), .ref (sb 2), .ref (sb 3), .int (u1.2.2.2.2.2.2 1), .int (u1.2.2.2.2.2.2 2), .int (u1.2.2.2.2.2.2 3), .int (u1.2.2.2.2.2.2 0)])), ((sb 0), wRef (cy 2) 8 S), ((sb 1), wInt (cy 0) 8 (fun j => u1.2.2.2.2.2.2 (13 + j))), ((sb 2), wInt (cy 0) 8 (fun j => u1.2.2.2.2.2.2 (21 + j))), ((sb 3), wInt (cy 0) 8 (fun j => u1.2.2.2.2.2.2 (29 + j)))])) (va_runV (As := []) (rest := []) CF (k_X6_readLaw l D cy _ rd tp kk sa L w4 0 w6 w7 (nI 0) w9 f sb S t (by first | assumption | omega | decide)) (cwV 0 hts gX6_readTape_X6_readLaw rfl rfl rfl (by decide +kernel) ⟨Nat.le_of_ble_eq_true rfl, Nat.le_of_ble_eq_true rfl⟩) (pre_V hKN hP hD [0, 1, 8, 9, 10, 11, 12] rfl (by decide) 0 5 rfl rfl) rfl rfl hl.1 rfl (lv_room (Nat.le_of_ble_eq_true rfl)) dX6_readTape_11 ⟨Nat.le_of_ble_eq_true rfl, Nat.le_of_ble_eq_true rfl⟩) hS hA hP hD [0, 1, 8, 9, 10, 11, 12] [2, 3, 4, 5, 6, 7] [6, 7, 0, 1, 2, 3, 4, 5, 8, 9, 10, 11, 12] rfl rfl (by decide) (by decide) (fun _ => rfl) (by decide) (fun r2 u1 H locs hw3 hP hD hS => ?_)
  obtain ⟨hw3a, hw3⟩ := hw3
  replace hw3a := hw3a.symm; subst hw3a
  obtain ⟨w4x_1, qx_1, w6x_1, w7x_1, w8x_1, w9x_1, tx_1⟩ := u1
  try dsimp only at hw3
  have hP : va_P D vwCl ([(rd, .inr (5, [.ref tp, .ref kk, .ref sa, .int (nI L), .int w4x_1, .int (nI qx_1), .int w6x_1, .int w7x_1, .int w8x_1, .int w9x_1])), (tp, wInt (cy 0) 60 f), (kk, wRef (cy 2) 6 KF), ((kd 1), .inr (3, [])), ((kd 2), .inr (4, [])), ((kd 3), .inr (9, [])), ((kd 4), .inr (6, [])), ((kd 5), .inr (1, [])), (sa, .inr (8, [.ref (sb 0), .ref (sb 1), .ref (sb 2), .ref (sb 3), .int (tx_1 1), .int (tx_1 2), .int (tx_1 3), .int (tx_1 0)])), ((sb 0), wRef (cy 2) 8 S), ((sb 1), wInt (cy 0) 8 (fun j => tx_1 (13 + j))), ((sb 2), wInt (cy 0) 8 (fun j => tx_1 (21 + j))), ((sb 3), wInt (cy 0) 8 (fun j => tx_1 (29 + j)))]) H := hP
  have hD : va_D A_ ([(rd, .inr (5, [.ref tp, .ref kk, .ref sa, .int (nI L), .int w4x_1, .int (nI qx_1), .int w6x_1, .int w7x_1, .int w8x_1, .int w9x_1])), (tp, wInt (cy 0) 60 f), (kk, wRef (cy 2) 6 KF), ((kd 1), .inr (3, [])), ((kd 2), .inr (4, [])), ((kd 3), .inr (9, [])), ((kd 4), .inr (6, [])), ((kd 5), .inr (1, [])), (sa, .inr (8, [.ref (sb 0), .ref (sb 1), .ref (sb 2), .ref (sb 3), .int (tx_1 1), .int (tx_1 2), .int (tx_1 3), .int (tx_1 0)])), ((sb 0), wRef (cy 2) 8 S), ((sb 1), wInt (cy 0) 8 (fun j => tx_1 (13 + j))), ((sb 2), wInt (cy 0) 8 (fun j => tx_1 (21 + j))), ((sb 3), wInt (cy 0) 8 (fun j => tx_1 (29 + j)))]) := hD
  refine lv_istore_n (lv' := [(1, .int (bI (lawX f L = 0))), (0, .ref rd)]) hx hb dX6_readTape_14 rfl hl (by decide) rfl (fun ls hl => ?_)
  refine lv_iconst (v := nI 0) hx hb dX6_readTape_15 (by decide) ?_
  refine lv_istore_n (lv' := [(2, .int (nI 0)), (1, .int (bI (lawX f L = 0))), (0, .ref rd)]) hx hb dX6_readTape_16 rfl hl (by decide) rfl (fun ls hl => ?_)
  have lp17 : ∀ f_ : Nat, ∀ (g : Int32) (k : Nat) (w4v : Int32) (qv : Nat) (w6v : Int32) (w7v : Int32) (w8v : Int32) (w9v : Int32) (Sv : Nat → Option Nat) (tv : Nat → Int32), (9 - k) < f_ → (k ≤ 9) → (∀ j, j < 8 → anyS kd (Sv j)) → ((g = nI 1 ∧ rtY kd f L Sv tv qv k w8v) ∨ (g = nI 0 ∧ rtN kd f L Sv tv w8v w9v)) → ∀ (H : Heap) (locs : List Loc), va_P D vwCl ([(rd, .inr (5, [.ref tp, .ref kk, .ref sa, .int (nI L), .int w4v, .int (nI qv), .int w6v, .int w7v, .int w8v, .int w9v])), (tp, wInt (cy 0) 60 f), (kk, wRef (cy 2) 6 KF), ((kd 1), .inr (3, [])), ((kd 2), .inr (4, [])), ((kd 3), .inr (9, [])), ((kd 4), .inr (6, [])), ((kd 5), .inr (1, [])), (sa, .inr (8, [.ref (sb 0), .ref (sb 1), .ref (sb 2), .ref (sb 3), .int (tv 1), .int (tv 2), .int (tv 3), .int (tv 0)])), ((sb 0), wRef (cy 2) 8 Sv), ((sb 1), wInt (cy 0) 8 (fun j => tv (13 + j))), ((sb 2), wInt (cy 0) 8 (fun j => tv (21 + j))), ((sb 3), wInt (cy 0) 8 (fun j => tv (29 + j)))]) H → va_D A_ ([(rd, .inr (5, [.ref tp, .ref kk, .ref sa, .int (nI L), .int w4v, .int (nI qv), .int w6v, .int w7v, .int w8v, .int w9v])), (tp, wInt (cy 0) 60 f), (kk, wRef (cy 2) 6 KF), ((kd 1), .inr (3, [])), ((kd 2), .inr (4, [])), ((kd 3), .inr (9, [])), ((kd 4), .inr (6, [])), ((kd 5), .inr (1, [])), (sa, .inr (8, [.ref (sb 0), .ref (sb 1), .ref (sb 2), .ref (sb 3), .int (tv 1), .int (tv 2), .int (tv 3), .int (tv 0)])), ((sb 0), wRef (cy 2) 8 Sv), ((sb 1), wInt (cy 0) 8 (fun j => tv (13 + j))), ((sb 2), wInt (cy 0) 8 (fun j => tv (21 + j))), ((sb 3), wInt (cy 0) 8 (fun j => tv (29 + j)))]) → va_S A_ s_.heap H locs → ∀ ls : Array Slot, lv_has ls 3 [(0, .ref rd), (1, .int g), (2, .int (nI k))] → W p_ l e_ (rmD 5) s_ m_ args_ below_ meth_ c_ H locs 0 0 Q_ (F0 m_ 17 ls []) := by
    intro f_
    induction f_ with
    | zero => intro g k w4v qv w6v w7v w8v w9v Sv tv hm_; exact absurd hm_ (by omega)
    | succ f_ ih17 =>
      intro g k w4v qv w6v w7v w8v w9v Sv tv hm_ hk hSv hor H locs hP hD hS ls hl
      refine lv_iload_n hx hb dX6_readTape_17 rfl (lv_at hl 1 rfl) ?_
      refine lv_if_eq (tgt := 57) hx hb dX6_readTape_18 (by decide) (fun c18 => ?_) (fun c18 => ?_)
      · have hX := (hor.resolve_left (fun z => absurd (z.1.symm.trans c18) (by decide))).2
        refine lv_aload_n hx hb dX6_readTape_57 rfl (lv_at hl 0 rfl) ?_
        refine lv_iconst (v := nI 0) hx hb dX6_readTape_58 (by decide) ?_
        refine va_put (ci := 5) (v := .int (nI 0)) (ty := .int) (C := RX6) (T := TX6) (N := 10) hx hb hts hinX6 tyX6 tyX6_ok nmX6 hown hK hP hD hS 0 rfl rfl 3 (by decide) hf26 (fun _ h9 => h9) rfl (by decide +kernel) rfl rfl (Nat.le_of_ble_eq_true rfl) dX6_readTape_59 (fun H locs hP hD hS => ?_)
        have hP : va_P D vwCl ([(rd, .inr (5, [.ref tp, .ref kk, .ref sa, .int (nI 0), .int w4v, .int (nI qv), .int w6v, .int w7v, .int w8v, .int w9v])), (tp, wInt (cy 0) 60 f), (kk, wRef (cy 2) 6 KF), ((kd 1), .inr (3, [])), ((kd 2), .inr (4, [])), ((kd 3), .inr (9, [])), ((kd 4), .inr (6, [])), ((kd 5), .inr (1, [])), (sa, .inr (8, [.ref (sb 0), .ref (sb 1), .ref (sb 2), .ref (sb 3), .int (tv 1), .int (tv 2), .int (tv 3), .int (tv 0)])), ((sb 0), wRef (cy 2) 8 Sv), ((sb 1), wInt (cy 0) 8 (fun j => tv (13 + j))), ((sb 2), wInt (cy 0) 8 (fun j => tv (21 + j))), ((sb 3), wInt (cy 0) 8 (fun j => tv (29 + j)))]) H := hP
        have hD : va_D A_ ([(rd, .inr (5, [.ref tp, .ref kk, .ref sa, .int (nI 0), .int w4v, .int (nI qv), .int w6v, .int w7v, .int w8v, .int w9v])), (tp, wInt (cy 0) 60 f), (kk, wRef (cy 2) 6 KF), ((kd 1), .inr (3, [])), ((kd 2), .inr (4, [])), ((kd 3), .inr (9, [])), ((kd 4), .inr (6, [])), ((kd 5), .inr (1, [])), (sa, .inr (8, [.ref (sb 0), .ref (sb 1), .ref (sb 2), .ref (sb 3), .int (tv 1), .int (tv 2), .int (tv 3), .int (tv 0)])), ((sb 0), wRef (cy 2) 8 Sv), ((sb 1), wInt (cy 0) 8 (fun j => tv (13 + j))), ((sb 2), wInt (cy 0) 8 (fun j => tv (21 + j))), ((sb 3), wInt (cy 0) 8 (fun j => tv (29 + j)))]) := hD
        exact ret (w4v, qv, w6v, w7v, w8v, w9v, Sv, tv) _ _ _ _ dX6_readTape_62 ⟨hSv, hX⟩ hP hD hS
      · have hY := (hor.resolve_right (fun z => c18 z.1)).2
        have hq := hY.2.1
        have hk8 := hY.2.2.1
        have h3v := hY.2.2.2.1
        refine lv_iload_n hx hb dX6_readTape_21 rfl (lv_at hl 2 rfl) ?_
        refine lv_bipush (v := nI 8) hx hb dX6_readTape_22 (by decide) ?_
        refine gtN (tgt := 57) hx hb (by omega) (by decide) dX6_readTape_24 (by decide) (fun c24 => absurd c24 (by omega)) (fun c24 => ?_)
        refine lv_aload_n hx hb dX6_readTape_27 rfl (lv_at hl 0 rfl) ?_
        refine call_i (wr := []) (ws' := (fun u4 : Int32 × Nat × Int32 × Int32 × Int32 × Int32 × (Nat → Option Nat) × (Nat → Int32) => [(rd, .inr (5, [.ref tp, .ref kk, .ref sa, .int (nI L), .int u4.1, .int (nI (u4.2.1)), .int u4.2.2.1, .int u4.2.2.2.1, .int u4.2.2.2.2.1, .int u4.2.2.2.2.2.1])), (tp, wInt (cy 0) 60 f), (kk, wRef (cy 2) 6 KF), ((kd 1), .inr (3, [])), ((kd 2), .inr (4, [])), ((kd 3), .inr (9, [])), ((kd 4), .inr (6, [])), ((kd 5), .inr (1, [])), (sa, .inr (8, [.ref (sb 0), .ref (sb 1), .ref (sb 2), .ref (sb 3), .int (u4.2.2.2.2.2.2.2 1), .int (u4.2.2.2.2.2.2.2 2), .int (u4.2.2.2.2.2.2.2 3), .int (u4.2.2.2.2.2.2.2 0)])), ((sb 0), wRef (cy 2) 8 u4.2.2.2.2.2.2.1), ((sb 1), wInt (cy 0) 8 (fun j => u4.2.2.2.2.2.2.2 (13 + j))), ((sb 2), wInt (cy 0) 8 (fun j => u4.2.2.2.2.2.2.2 (21 + j))), ((sb 3), wInt (cy 0) 8 (fun j => u4.2.2.2.2.2.2.2 (29 + j)))])) (va_runV (As := []) (rest := []) CF (k_X6_readCard l D cy _ rd tp kk sa L w4v qv w6v w7v w8v w9v f KF kd sb Sv tv k (by first | assumption | omega | decide) hq (by first | assumption | omega | decide) h3v (by first | assumption | omega | decide) hSv) (cwV 0 hts gX6_readTape_X6_readCard rfl rfl rfl (by decide +kernel) ⟨Nat.le_of_ble_eq_true rfl, Nat.le_of_ble_eq_true rfl⟩) (pre_V hKN hP hD [0, 1, 2, 3, 4, 5, 6, 7, 8, 9, 10, 11, 12] rfl (by decide) 0 5 rfl rfl) rfl rfl hl.1 rfl (lv_room (Nat.le_of_ble_eq_true rfl)) dX6_readTape_28 ⟨Nat.le_of_ble_eq_true rfl, Nat.le_of_ble_eq_true rfl⟩) hS hA hP hD [0, 1, 2, 3, 4, 5, 6, 7, 8, 9, 10, 11, 12] [] [0, 1, 2, 3, 4, 5, 6, 7, 8, 9, 10, 11, 12] rfl rfl (by decide) (by decide) (fun _ => rfl) (by decide) (fun r5 u4 H locs hw6 hP hD hS => ?_)
        obtain ⟨hw6a, hw6⟩ := hw6
        replace hw6a := hw6a.symm; subst hw6a
        obtain ⟨w4x_4, qx_4, w6x_4, w7x_4, w8x_4, w9x_4, Sx_4, tx_4⟩ := u4
        try dsimp only at hw6
        have hP : va_P D vwCl ([(rd, .inr (5, [.ref tp, .ref kk, .ref sa, .int (nI L), .int w4x_4, .int (nI qx_4), .int w6x_4, .int w7x_4, .int w8x_4, .int w9x_4])), (tp, wInt (cy 0) 60 f), (kk, wRef (cy 2) 6 KF), ((kd 1), .inr (3, [])), ((kd 2), .inr (4, [])), ((kd 3), .inr (9, [])), ((kd 4), .inr (6, [])), ((kd 5), .inr (1, [])), (sa, .inr (8, [.ref (sb 0), .ref (sb 1), .ref (sb 2), .ref (sb 3), .int (tx_4 1), .int (tx_4 2), .int (tx_4 3), .int (tx_4 0)])), ((sb 0), wRef (cy 2) 8 Sx_4), ((sb 1), wInt (cy 0) 8 (fun j => tx_4 (13 + j))), ((sb 2), wInt (cy 0) 8 (fun j => tx_4 (21 + j))), ((sb 3), wInt (cy 0) 8 (fun j => tx_4 (29 + j)))]) H := hP
        have hD : va_D A_ ([(rd, .inr (5, [.ref tp, .ref kk, .ref sa, .int (nI L), .int w4x_4, .int (nI qx_4), .int w6x_4, .int w7x_4, .int w8x_4, .int w9x_4])), (tp, wInt (cy 0) 60 f), (kk, wRef (cy 2) 6 KF), ((kd 1), .inr (3, [])), ((kd 2), .inr (4, [])), ((kd 3), .inr (9, [])), ((kd 4), .inr (6, [])), ((kd 5), .inr (1, [])), (sa, .inr (8, [.ref (sb 0), .ref (sb 1), .ref (sb 2), .ref (sb 3), .int (tx_4 1), .int (tx_4 2), .int (tx_4 3), .int (tx_4 0)])), ((sb 0), wRef (cy 2) 8 Sx_4), ((sb 1), wInt (cy 0) 8 (fun j => tx_4 (13 + j))), ((sb 2), wInt (cy 0) 8 (fun j => tx_4 (21 + j))), ((sb 3), wInt (cy 0) 8 (fun j => tx_4 (29 + j)))]) := hD
        refine ifeqB (tgt := 49) hx hb dX6_readTape_31 (by decide) (fun c31 => ?_) (fun c31 => ?_)
        · replace c31 : ¬ (crdX f L qv tv k = 0) := c31
          refine lv_iconst (v := nI 0) hx hb dX6_readTape_49 (by decide) ?_
          refine lv_istore_n (lv' := [(1, .int (nI 0)), (0, .ref rd), (2, .int (nI k))]) hx hb dX6_readTape_50 rfl hl (by decide) rfl (fun ls hl => ?_)
          refine lv_iinc (v := nI (k + 1)) (lv' := [(2, .int (nI (k + 1))), (1, .int (nI 0)), (0, .ref rd)]) hx hb dX6_readTape_51 hl (k := 2) rfl (nI_1 _) (by decide) rfl (fun ls hl => ?_)
          refine lv_goto (tgt := 17) hx hb dX6_readTape_54 (by decide) ?_
          exact ih17 (nI 0) (k + 1) w4x_4 qx_4 w6x_4 w7x_4 w8x_4 w9x_4 Sx_4 tx_4 (by omega) (by omega) hw6.2 (Or.inr ⟨rfl, rt_cardN hY c31 (hw6.1.2 c31)⟩) _ _ hP hD hS ls (lv_sub hl [2, 1, 0] rfl)
        · replace c31 : (crdX f L qv tv k = 0) := c31
          have hqx : qx_4 ≤ L := (by rw [(hw6.1.1 c31).1]; exact lp_le hq 5)
          refine lv_aload_n hx hb dX6_readTape_34 rfl (lv_at hl 0 rfl) ?_
          refine va_get (ci := 5) (v := .int (nI qx_4)) (C := RX6) (T := TX6) (N := 10) hx hb hts hinX6 hown hK hP 0 rfl rfl 5 (by decide) hf34 (fun _ h9 => h9) rfl dX6_readTape_35 ?_
          refine lv_aload_n hx hb dX6_readTape_38 rfl (lv_at hl 0 rfl) ?_
          refine va_get (ci := 5) (v := .int (nI L)) (C := RX6) (T := TX6) (N := 10) hx hb hts hinX6 hown hK hP 0 rfl rfl 3 (by decide) hf26 (fun _ h9 => h9) rfl dX6_readTape_39 ?_
          refine geN (tgt := 49) hx hb (by omega) (by omega) dX6_readTape_42 (by decide) (fun c42 => ?_) (fun c42 => ?_)
          · refine lv_iconst (v := nI 0) hx hb dX6_readTape_49 (by decide) ?_
            refine lv_istore_n (lv' := [(1, .int (nI 0)), (0, .ref rd), (2, .int (nI k))]) hx hb dX6_readTape_50 rfl hl (by decide) rfl (fun ls hl => ?_)
            refine lv_iinc (v := nI (k + 1)) (lv' := [(2, .int (nI (k + 1))), (1, .int (nI 0)), (0, .ref rd)]) hx hb dX6_readTape_51 hl (k := 2) rfl (nI_1 _) (by decide) rfl (fun ls hl => ?_)
            refine lv_goto (tgt := 17) hx hb dX6_readTape_54 (by decide) ?_
            exact ih17 (nI 0) (k + 1) w4x_4 qx_4 w6x_4 w7x_4 w8x_4 w9x_4 Sx_4 tx_4 (by omega) (by omega) hw6.2 (Or.inr ⟨rfl, rt_stop hY c31 (hw6.1.1 c31) c42⟩) _ _ hP hD hS ls (lv_sub hl [2, 1, 0] rfl)
          · refine lv_iconst (v := nI 1) hx hb dX6_readTape_45 (by decide) ?_
            refine lv_goto (tgt := 50) hx hb dX6_readTape_46 (by decide) ?_
            refine lv_istore_n (lv' := [(1, .int (nI 1)), (0, .ref rd), (2, .int (nI k))]) hx hb dX6_readTape_50 rfl hl (by decide) rfl (fun ls hl => ?_)
            refine lv_iinc (v := nI (k + 1)) (lv' := [(2, .int (nI (k + 1))), (1, .int (nI 1)), (0, .ref rd)]) hx hb dX6_readTape_51 hl (k := 2) rfl (nI_1 _) (by decide) rfl (fun ls hl => ?_)
            refine lv_goto (tgt := 17) hx hb dX6_readTape_54 (by decide) ?_
            exact ih17 (nI 1) (k + 1) w4x_4 qx_4 w6x_4 w7x_4 w8x_4 w9x_4 Sx_4 tx_4 (by omega) (by omega) hw6.2 (Or.inl ⟨rfl, rt_go hY c31 (hw6.1.1 c31) c42⟩) _ _ hP hD hS ls (lv_sub hl [2, 1, 0] rfl)
  exact lp17 (9 - 0 + 1) (bI (lawX f L = 0)) 0 w4x_1 qx_1 w6x_1 w7x_1 w8x_1 w9x_1 S tx_1 (by omega) (by omega) hS8 (by by_cases z : lawX f L = 0; exact Or.inl ⟨bI_t z, rt_law z (hw3.1 z)⟩; exact Or.inr ⟨bI_f z, rt_lawN z (hw3.2 z)⟩) _ _ hP hD hS ls (lv_sub hl [2, 1, 0] rfl)
