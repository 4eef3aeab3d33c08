set_option maxHeartbeats 4000000 in
set_option maxRecDepth 100000 in
theorem k_J6_bitCount_0f7a4 (l : Launch) (D : va_G) (cy : Nat → ClassId) (sz : Nat) (x : Int32)  : Met l yJ6_bitCount_0f7a4 wsJ6_bitCount_0f7a4 (rmD 0) (pPre D (TY cy) ([]) sz [.int x]) (pI D (TY cy) ([]) sz (fun _ : Unit => []) (fun (r_ : Int32) (_ : Unit) => r_ = (bcF x))) 0 0 (va_A ([]) sz) := by
  refine ent_i (cc := cJ6_bitCount_0f7a4) (maxL := 1) (by decide +kernel) rfl (Nat.le_of_ble_eq_true rfl) ?_
  intro p_ e_ s_ m_ args_ below_ meth_ c_ A_ Q_ ls B0 ret
  obtain ⟨CF, hA, hKN, hP, hD, hl⟩ := B0
  have hK := hKN.1
  obtain ⟨hx, hb, hml, hown, hts⟩ := id CF
  have hS : va_S A_ s_.heap s_.heap [] := va_S.rf
  have hl : lv_has ls 1 [(0, .int x)] := hl
  have hc265 := hts (.constant RJ6 265 (1431655765)) (by decide +kernel)
  have hc266 := hts (.constant RJ6 266 (858993459)) (by decide +kernel)
  have hc267 := hts (.constant RJ6 267 (252645135)) (by decide +kernel)
  refine lv_iload_n hx hb dJ6_bitCount_0f7a4_0 rfl (lv_at hl 0 rfl) ?_
  refine lv_iload_n hx hb dJ6_bitCount_0f7a4_1 rfl (lv_at hl 0 rfl) ?_
  refine lv_iconst (v := nI 1) hx hb dJ6_bitCount_0f7a4_2 (by decide) ?_
  refine lv_iushr (v := ((x).toUInt32 >>> ((nI 1).toUInt32 &&& Int32.toUInt32 31)).toInt32) hx hb dJ6_bitCount_0f7a4_3 rfl ?_
  refine lv_ldcw hx hb hown hc265 dJ6_bitCount_0f7a4_4 (top_i (show (1431655765 : Int32) = nI 1431655765 from rfl) ?_)
  refine lv_iand hx hb dJ6_bitCount_0f7a4_7 ?_
  refine lv_isub hx hb dJ6_bitCount_0f7a4_8 ?_
  refine top_i (y := (bc1 x)) rfl ?_
  refine lv_istore_n (lv' := [(0, .int (bc1 x))]) hx hb dJ6_bitCount_0f7a4_9 rfl hl (by decide) rfl (fun ls hl => ?_)
  refine lv_iload_n hx hb dJ6_bitCount_0f7a4_10 rfl (lv_at hl 0 rfl) ?_
  refine lv_ldcw hx hb hown hc266 dJ6_bitCount_0f7a4_11 (top_i (show (858993459 : Int32) = nI 858993459 from rfl) ?_)
  refine lv_iand hx hb dJ6_bitCount_0f7a4_14 ?_
  refine lv_iload_n hx hb dJ6_bitCount_0f7a4_15 rfl (lv_at hl 0 rfl) ?_
  refine lv_iconst (v := nI 2) hx hb dJ6_bitCount_0f7a4_16 (by decide) ?_
  refine lv_iushr (v := (((bc1 x)).toUInt32 >>> ((nI 2).toUInt32 &&& Int32.toUInt32 31)).toInt32) hx hb dJ6_bitCount_0f7a4_17 rfl ?_
  refine lv_ldcw hx hb hown hc266 dJ6_bitCount_0f7a4_18 (top_i (show (858993459 : Int32) = nI 858993459 from rfl) ?_)
  refine lv_iand hx hb dJ6_bitCount_0f7a4_21 ?_
  refine lv_iadd hx hb dJ6_bitCount_0f7a4_22 ?_
  refine top_i (y := (bc2 (bc1 x))) rfl ?_
  refine lv_istore_n (lv' := [(0, .int (bc2 (bc1 x)))]) hx hb dJ6_bitCount_0f7a4_23 rfl hl (by decide) rfl (fun ls hl => ?_)
  refine lv_iload_n hx hb dJ6_bitCount_0f7a4_24 rfl (lv_at hl 0 rfl) ?_
  refine lv_iload_n hx hb dJ6_bitCount_0f7a4_25 rfl (lv_at hl 0 rfl) ?_
  refine lv_iconst (v := nI 4) hx hb dJ6_bitCount_0f7a4_26 (by decide) ?_
  refine lv_iushr (v := (((bc2 (bc1 x))).toUInt32 >>> ((nI 4).toUInt32 &&& Int32.toUInt32 31)).toInt32) hx hb dJ6_bitCount_0f7a4_27 rfl ?_
  refine lv_iadd hx hb dJ6_bitCount_0f7a4_28 ?_
  refine lv_ldcw hx hb hown hc267 dJ6_bitCount_0f7a4_29 (top_i (show (252645135 : Int32) = nI 252645135 from rfl) ?_)
  refine lv_iand hx hb dJ6_bitCount_0f7a4_32 ?_
  refine top_i (y := (bc3 (bc2 (bc1 x)))) rfl ?_
  refine lv_istore_n (lv' := [(0, .int (bc3 (bc2 (bc1 x))))]) hx hb dJ6_bitCount_0f7a4_33 rfl hl (by decide) rfl (fun ls hl => ?_)
  refine lv_iload_n hx hb dJ6_bitCount_0f7a4_34 rfl (lv_at hl 0 rfl) ?_
  refine lv_iload_n hx hb dJ6_bitCount_0f7a4_35 rfl (lv_at hl 0 rfl) ?_
  refine lv_bipush (v := nI 8) hx hb dJ6_bitCount_0f7a4_36 (by decide) ?_
  refine lv_iushr (v := (((bc3 (bc2 (bc1 x)))).toUInt32 >>> ((nI 8).toUInt32 &&& Int32.toUInt32 31)).toInt32) hx hb dJ6_bitCount_0f7a4_38 rfl ?_
  refine lv_iadd hx hb dJ6_bitCount_0f7a4_39 ?_
  refine top_i (y := (bc4 (bc3 (bc2 (bc1 x))))) rfl ?_
  refine lv_istore_n (lv' := [(0, .int (bc4 (bc3 (bc2 (bc1 x)))))]) hx hb dJ6_bitCount_0f7a4_40 rfl hl (by decide) rfl (fun ls hl => ?_)
  refine lv_iload_n hx hb dJ6_bitCount_0f7a4_41 rfl (lv_at hl 0 rfl) ?_
  refine lv_iload_n hx hb dJ6_bitCount_0f7a4_42 rfl (lv_at hl 0 rfl) ?_
  refine lv_bipush (v := nI 16) hx hb dJ6_bitCount_0f7a4_43 (by decide) ?_
  refine lv_iushr (v := (((bc4 (bc3 (bc2 (bc1 x))))).toUInt32 >>> ((nI 16).toUInt32 &&& Int32.toUInt32 31)).toInt32) hx hb dJ6_bitCount_0f7a4_45 rfl ?_
  refine lv_iadd hx hb dJ6_bitCount_0f7a4_46 ?_
  refine top_i (y := (bc5 (bc4 (bc3 (bc2 (bc1 x)))))) rfl ?_
  refine lv_istore_n (lv' := [(0, .int (bc5 (bc4 (bc3 (bc2 (bc1 x))))))]) hx hb dJ6_bitCount_0f7a4_47 rfl hl (by decide) rfl (fun ls hl => ?_)
  refine lv_iload_n hx hb dJ6_bitCount_0f7a4_48 rfl (lv_at hl 0 rfl) ?_
  refine lv_bipush (v := nI 63) hx hb dJ6_bitCount_0f7a4_49 (by decide) ?_
  refine lv_iand hx hb dJ6_bitCount_0f7a4_51 ?_
  exact ret _ () _ _ _ _ dJ6_bitCount_0f7a4_52 rfl hP hD hS
set_option maxHeartbeats 4000000 in
set_option maxRecDepth 100000 in
theorem k_X11_within (l : Launch) (D : va_G) (cy : Nat → ClassId) (sz : Nat) (x : Int32) (lo : Int32) (hi : Int32)  : Met l yX11_within wsX11_within (rmD 0) (pPre D (TY cy) ([]) sz [.int x, .int lo, .int hi]) (pI D (TY cy) ([]) sz (fun _ : Unit => []) (fun (r_ : Int32) (_ : Unit) => r_ = bI (lo ≤ x ∧ x ≤ hi))) 0 0 (va_A ([]) sz) := by
  refine ent_z (cc := cX11_within) (maxL := 3) (by decide +kernel) rfl (Nat.le_of_ble_eq_true rfl) ?_
  intro p_ e_ s_ m_ args_ below_ meth_ c_ A_ Q_ ls B0 ret
  obtain ⟨CF, hA, hKN, hP, hD, hl⟩ := B0
  have hK := hKN.1
  obtain ⟨hx, hb, hml, hown, hts⟩ := id CF
  have hS : va_S A_ s_.heap s_.heap [] := va_S.rf
  have hl : lv_has ls 3 [(0, .int x), (1, .int lo), (2, .int hi)] := hl
  refine lv_iload_n hx hb dX11_within_0 rfl (lv_at hl 0 rfl) ?_
  refine lv_iload_n hx hb dX11_within_1 rfl (lv_at hl 1 rfl) ?_
  refine lv_icmp_lt (tgt := 14) hx hb dX11_within_2 (by decide) (fun c2 => ?_) (fun c2 => ?_)
  · refine lv_iconst (v := nI 0) hx hb dX11_within_14 (by decide) ?_
    exact ret _ () _ _ _ _ dX11_within_15 rfl (by rw [bI_f (fun z => by first | exact Int32.not_lt.mpr z.1 c2 | exact Int32.not_lt.mpr z.2 c7)]; rfl) hP hD hS
  · refine lv_iload_n hx hb dX11_within_5 rfl (lv_at hl 0 rfl) ?_
    refine lv_iload_n hx hb dX11_within_6 rfl (lv_at hl 2 rfl) ?_
    refine lv_icmp_gt (tgt := 14) hx hb dX11_within_7 (by decide) (fun c7 => ?_) (fun c7 => ?_)
    · refine lv_iconst (v := nI 0) hx hb dX11_within_14 (by decide) ?_
      exact ret _ () _ _ _ _ dX11_within_15 rfl (by rw [bI_f (fun z => by first | exact Int32.not_lt.mpr z.1 c2 | exact Int32.not_lt.mpr z.2 c7)]; rfl) hP hD hS
    · refine lv_iconst (v := nI 1) hx hb dX11_within_10 (by decide) ?_
      refine lv_goto (tgt := 15) hx hb dX11_within_11 (by decide) ?_
      exact ret _ () _ _ _ _ dX11_within_15 rfl (by rw [bI_t ⟨Int32.not_lt.mp c2, Int32.not_lt.mp c7⟩]; rfl) hP hD hS
set_option maxHeartbeats 4000000 in
set_option maxRecDepth 100000 in
theorem k_X8_isMissing (l : Launch) (D : va_G) (cy : Nat → ClassId) (sz : Nat) (a : Nat) (b : Nat) (ln : Int32) (z : Nat)  : Met l yX8_isMissing wsX8_isMissing (rmD 0) (pPre D (TY cy) ([(a, .inr (7, [.ref b, .int ln, .int (nI z)]))]) sz [.ref a]) (pI D (TY cy) ([(a, .inr (7, [.ref b, .int ln, .int (nI z)]))]) sz (fun _ : Unit => [(a, .inr (7, [.ref b, .int ln, .int (nI z)]))]) (fun (r_ : Int32) (_ : Unit) => r_ = bI (ln = -1))) 0 0 (va_A ([(a, .inr (7, [.ref b, .int ln, .int (nI z)]))]) sz) := by
  refine ent_z (cc := cX8_isMissing) (maxL := 1) (by decide +kernel) rfl (Nat.le_of_ble_eq_true rfl) ?_
  intro p_ e_ s_ m_ args_ below_ meth_ c_ A_ Q_ ls B0 ret
  obtain ⟨CF, hA, hKN, hP, hD, hl⟩ := B0
  have hK := hKN.1
  obtain ⟨hx, hb, hml, hown, hts⟩ := id CF
  have hS : va_S A_ s_.heap s_.heap [] := va_S.rf
  have hl : lv_has ls 1 [(0, .ref a)] := hl
  have hf15 := hts (.fieldLink RX8 15 "DrawerCards$Row" "lane" "I") (by decide +kernel)
  have hinX8 := show ∀ w ∈ u_ws RX8 TX8 3, w ∈ wsX8_isMissing from by decide +kernel
  refine lv_aload_n hx hb dX8_isMissing_0 rfl (lv_at hl 0 rfl) ?_
  refine va_get (ci := 7) (v := .int ln) (C := RX8) (T := TX8) (N := 3) hx hb hts hinX8 hown hK hP 0 rfl rfl 1 (by decide) hf15 (fun _ h9 => h9) rfl dX8_isMissing_1 ?_
  refine lv_iconst (v := (-1)) hx hb dX8_isMissing_4 (by decide) ?_
  refine lv_icmp_ne (tgt := 12) hx hb dX8_isMissing_5 (by decide) (fun c5 => ?_) (fun c5 => ?_)
  · refine lv_iconst (v := nI 0) hx hb dX8_isMissing_12 (by decide) ?_
    exact ret _ () _ _ _ _ dX8_isMissing_13 rfl (by first | (rw [bI_t c5]; rfl) | (rw [bI_f c5]; rfl)) hP hD hS
  · refine lv_iconst (v := nI 1) hx hb dX8_isMissing_8 (by decide) ?_
    refine lv_goto (tgt := 13) hx hb dX8_isMissing_9 (by decide) ?_
    exact ret _ () _ _ _ _ dX8_isMissing_13 rfl (by first | (rw [bI_t c5]; rfl) | (rw [bI_f c5]; rfl)) hP hD hS
set_option maxHeartbeats 4000000 in
set_option maxRecDepth 100000 in
theorem k_X8_begin (l : Launch) (D : va_G) (cy : Nat → ClassId) (sz : Nat) (a : Nat) (b : Nat) (ln : Int32) (z : Nat) (f : Nat → Int32) (l0 : Int32) (m : Nat) (hm : m ≤ 40) : Met l yX8_begin wsX8_begin (rmD 1) (pPre D (TY cy) ([(a, .inr (7, [.ref b, .int ln, .int (nI z)])), (b, wInt (cy 0) 40 f)]) sz [.ref a, .int l0, .int (nI m)]) (pV D (TY cy) ([(a, .inr (7, [.ref b, .int ln, .int (nI z)])), (b, wInt (cy 0) 40 f)]) sz (fun _ : Unit => [(a, .inr (7, [.ref b, .int l0, .int (nI m)])), (b, wInt (cy 0) 40 (fun _ => nI 0))]) (fun (_ : Unit) => True)) 0 0 (va_A ([(a, .inr (7, [.ref b, .int ln, .int (nI z)])), (b, wInt (cy 0) 40 f)]) sz) := by
  refine ent_v (cc := cX8_begin) (maxL := 4) (by decide +kernel) rfl (Nat.le_of_ble_eq_true rfl) ?_
  intro p_ e_ s_ m_ args_ below_ meth_ c_ A_ Q_ ls B0 ret
  obtain ⟨CF, hA, hKN, hP, hD, hl⟩ := B0
  have hK := hKN.1
  obtain ⟨hx, hb, hml, hown, hts⟩ := id CF
  have hS : va_S A_ s_.heap s_.heap [] := va_S.rf
  have hl : lv_has ls 4 [(0, .ref a), (1, .int l0), (2, .int (nI m))] := hl
  have hf15 := hts (.fieldLink RX8 15 "DrawerCards$Row" "lane" "I") (by decide +kernel)
  have hinX8 := show ∀ w ∈ u_ws RX8 TX8 3, w ∈ wsX8_begin from by decide +kernel
  have hm19 := hts (.methodLink RX8 19 Lib.Math.min.name) (by decide +kernel)
  have hms19 := hts (.static Lib.Math.min.name) (by decide +kernel)
  have hmi := hts (.initialized "java/lang/Math") (by decide +kernel)
  have hmc19 := hts (.code Lib.Math.min.name Lib.Math.min.code 2 (some .int)) (by decide +kernel)
  have hm25 := hts (.methodLink RX8 25 Lib.Math.max.name) (by decide +kernel)
  have hms25 := hts (.static Lib.Math.max.name) (by decide +kernel)
  have hmc25 := hts (.code Lib.Math.max.name Lib.Math.max.code 2 (some .int)) (by decide +kernel)
  have hf28 := hts (.fieldLink RX8 28 "DrawerCards$Row" "length" "I") (by decide +kernel)
  have hf9 := hts (.fieldLink RX8 9 "DrawerCards$Row" "items" "[I") (by decide +kernel)
  refine lv_aload_n hx hb dX8_begin_0 rfl (lv_at hl 0 rfl) ?_
  refine lv_iload_n hx hb dX8_begin_1 rfl (lv_at hl 1 rfl) ?_
  refine va_put (ci := 7) (v := .int l0) (ty := .int) (C := RX8) (T := TX8) (N := 3) hx hb hts hinX8 tyX8 tyX8_ok nmX8 hown hK hP hD hS 0 rfl rfl 1 (by decide) hf15 (fun _ h9 => h9) rfl (by decide +kernel) rfl rfl (Nat.le_of_ble_eq_true rfl) dX8_begin_2 (fun H locs hP hD hS => ?_)
  have hP : va_P D vwCl ([(a, .inr (7, [.ref b, .int l0, .int (nI z)])), (b, wInt (cy 0) 40 f)]) H := hP
  have hD : va_D A_ ([(a, .inr (7, [.ref b, .int l0, .int (nI z)])), (b, wInt (cy 0) 40 f)]) := hD
  refine lv_aload_n hx hb dX8_begin_5 rfl (lv_at hl 0 rfl) ?_
  refine lv_iconst (v := nI 0) hx hb dX8_begin_6 (by decide) ?_
  refine lv_iload_n hx hb dX8_begin_7 rfl (lv_at hl 2 rfl) ?_
  refine lv_bipush (v := nI 40) hx hb dX8_begin_8 (by decide) ?_
  refine va_mmin hx hb (hml.trans hl.1.symm) hown hm19 hms19 hmi hmc19 (Nat.le_of_ble_eq_true rfl) (Nat.le_of_ble_eq_true rfl) (Nat.le_of_ble_eq_true rfl) (Nat.le_of_ble_eq_true rfl) dX8_begin_10 ?_
  refine top_i (y := nI m) (mn40 hm) ?_
  refine va_mmax hx hb (hml.trans hl.1.symm) hown hm25 hms25 hmi hmc25 (Nat.le_of_ble_eq_true rfl) (Nat.le_of_ble_eq_true rfl) (Nat.le_of_ble_eq_true rfl) (Nat.le_of_ble_eq_true rfl) dX8_begin_13 ?_
  refine top_i (y := nI m) (mx0 hm) ?_
  refine va_put (ci := 7) (v := .int (nI m)) (ty := .int) (C := RX8) (T := TX8) (N := 3) hx hb hts hinX8 tyX8 tyX8_ok nmX8 hown hK hP hD hS 0 rfl rfl 2 (by decide) hf28 (fun _ h9 => h9) rfl (by decide +kernel) rfl rfl (Nat.le_of_ble_eq_true rfl) dX8_begin_16 (fun H locs hP hD hS => ?_)
  have hP : va_P D vwCl ([(a, .inr (7, [.ref b, .int l0, .int (nI m)])), (b, wInt (cy 0) 40 f)]) H := hP
  have hD : va_D A_ ([(a, .inr (7, [.ref b, .int l0, .int (nI m)])), (b, wInt (cy 0) 40 f)]) := hD
  refine lv_iconst (v := nI 0) hx hb dX8_begin_19 (by decide) ?_
  refine lv_istore_n (lv' := [(3, .int (nI 0)), (0, .ref a), (1, .int l0), (2, .int (nI m))]) hx hb dX8_begin_20 rfl hl (by decide) rfl (fun ls hl => ?_)
  have lp21 : ∀ f_ : Nat, ∀ (i : Nat) (g : Nat → Int32), (40 - i) < f_ → (i ≤ 40) → (∀ j, j < i → g j = nI 0) → ∀ (H : Heap) (locs : List Loc), va_P D vwCl ([(a, .inr (7, [.ref b, .int l0, .int (nI m)])), (b, wInt (cy 0) 40 g)]) H → va_D A_ ([(a, .inr (7, [.ref b, .int l0, .int (nI m)])), (b, wInt (cy 0) 40 g)]) → va_S A_ s_.heap H locs → ∀ ls : Array Slot, lv_has ls 4 [(0, .ref a), (1, .int l0), (2, .int (nI m)), (3, .int (nI i))] → W p_ l e_ (rmD 1) s_ m_ args_ below_ meth_ c_ H locs 0 0 Q_ (F0 m_ 21 ls []) := by
    intro f_
    induction f_ with
    | zero => intro i g hm_; exact absurd hm_ (by omega)
    | succ f_ ih21 =>
      intro i g hm_ hi q0 H locs hP hD hS ls hl
      refine lv_iload_n hx hb dX8_begin_21 rfl (lv_at hl 3 rfl) ?_
      refine lv_bipush (v := nI 40) hx hb dX8_begin_22 (by decide) ?_
      refine geN (tgt := 40) hx hb (by omega) (by decide) dX8_begin_24 (by decide) (fun c24 => ?_) (fun c24 => ?_)
      · exact ret () _ _ _ _ dX8_begin_40 trivial (P_ext hP 1 rfl (g := fun _ => nI 0) (fun j hj => q0 j (by omega)) rfl) (D_list hD rfl) hS
      · refine lv_aload_n hx hb dX8_begin_27 rfl (lv_at hl 0 rfl) ?_
        refine va_get (ci := 7) (v := .ref b) (C := RX8) (T := TX8) (N := 3) hx hb hts hinX8 hown hK hP 0 rfl rfl 0 (by decide) hf9 (fun _ h9 => h9) rfl dX8_begin_28 ?_
        refine lv_iload_n hx hb dX8_begin_31 rfl (lv_at hl 3 rfl) ?_
        refine lv_iconst (v := nI 0) hx hb dX8_begin_32 (by decide) ?_
        refine stN (f := g) (ws' := [(a, .inr (7, [.ref b, .int l0, .int (nI m)])), (b, wInt (cy 0) 40 (upd g i (nI 0)))]) hx hb hK hP hD hS 1 rfl (j := i) (by omega) (by decide) dX8_begin_33 rfl (fun H locs hP hD hS => ?_)
        refine lv_iinc (v := nI (i + 1)) (lv' := [(3, .int (nI (i + 1))), (0, .ref a), (1, .int l0), (2, .int (nI m))]) hx hb dX8_begin_34 hl (k := 3) rfl (nI_1 _) (by decide) rfl (fun ls hl => ?_)
        refine lv_goto (tgt := 21) hx hb dX8_begin_37 (by decide) ?_
        exact ih21 (i + 1) (upd g i (nI 0)) (by omega) (by omega) (cp_s (g := fun _ => nI 0) q0) _ _ hP hD hS ls (lv_sub hl [1, 2, 3, 0] rfl)
  exact lp21 (40 - 0 + 1) 0 f (by omega) (by omega) (fun _ q => absurd q (by omega)) _ _ hP hD hS ls (lv_sub hl [1, 2, 3, 0] rfl)
set_option maxHeartbeats 4000000 in
set_option maxRecDepth 100000 in
theorem k_X8_end (l : Launch) (D : va_G) (cy : Nat → ClassId) (sz : Nat) (a : Nat) (b : Nat) (ln : Int32) (z : Nat)  : Met l yX8_end wsX8_end (rmD 0) (pPre D (TY cy) ([(a, .inr (7, [.ref b, .int ln, .int (nI z)]))]) sz [.ref a]) (pV D (TY cy) ([(a, .inr (7, [.ref b, .int ln, .int (nI z)]))]) sz (fun _ : Unit => [(a, .inr (7, [.ref b, .int (-1), .int (nI 0)]))]) (fun (_ : Unit) => True)) 0 0 (va_A ([(a, .inr (7, [.ref b, .int ln, .int (nI z)]))]) sz) := by
  refine ent_v (cc := cX8_end) (maxL := 1) (by decide +kernel) rfl (Nat.le_of_ble_eq_true rfl) ?_
  intro p_ e_ s_ m_ args_ below_ meth_ c_ A_ Q_ ls B0 ret
  obtain ⟨CF, hA, hKN, hP, hD, hl⟩ := B0
  have hK := hKN.1
  obtain ⟨hx, hb, hml, hown, hts⟩ := id CF
  have hS : va_S A_ s_.heap s_.heap [] := va_S.rf
  have hl : lv_has ls 1 [(0, .ref a)] := hl
  have hf15 := hts (.fieldLink RX8 15 "DrawerCards$Row" "lane" "I") (by decide +kernel)
  have hinX8 := show ∀ w ∈ u_ws RX8 TX8 3, w ∈ wsX8_end from by decide +kernel
  have hf28 := hts (.fieldLink RX8 28 "DrawerCards$Row" "length" "I") (by decide +kernel)
  refine lv_aload_n hx hb dX8_end_0 rfl (lv_at hl 0 rfl) ?_
  refine lv_iconst (v := (-1)) hx hb dX8_end_1 (by decide) ?_
  refine va_put (ci := 7) (v := .int (-1)) (ty := .int) (C := RX8) (T := TX8) (N := 3) hx hb hts hinX8 tyX8 tyX8_ok nmX8 hown hK hP hD hS 0 rfl rfl 1 (by decide) hf15 (fun _ h9 => h9) rfl (by decide +kernel) rfl rfl (Nat.le_of_ble_eq_true rfl) dX8_end_2 (fun H locs hP hD hS => ?_)
  have hP : va_P D vwCl ([(a, .inr (7, [.ref b, .int (-1), .int (nI z)]))]) H := hP
  have hD : va_D A_ ([(a, .inr (7, [.ref b, .int (-1), .int (nI z)]))]) := hD
  refine lv_aload_n hx hb dX8_end_5 rfl (lv_at hl 0 rfl) ?_
  refine lv_iconst (v := nI 0) hx hb dX8_end_6 (by decide) ?_
  refine va_put (ci := 7) (v := .int (nI 0)) (ty := .int) (C := RX8) (T := TX8) (N := 3) hx hb hts hinX8 tyX8 tyX8_ok nmX8 hown hK hP hD hS 0 rfl rfl 2 (by decide) hf28 (fun _ h9 => h9) rfl (by decide +kernel) rfl rfl (Nat.le_of_ble_eq_true rfl) dX8_end_7 (fun H locs hP hD hS => ?_)
  have hP : va_P D vwCl ([(a, .inr (7, [.ref b, .int (-1), .int (nI 0)]))]) H := hP
  have hD : va_D A_ ([(a, .inr (7, [.ref b, .int (-1), .int (nI 0)]))]) := hD
  exact ret () _ _ _ _ dX8_end_10 trivial hP hD hS
set_option maxHeartbeats 4000000 in
set_option maxRecDepth 100000 in
theorem k_X8_reaches (l : Launch) (D : va_G) (cy : Nat → ClassId) (sz : Nat) (a : Nat) (b : Nat) (ln : Int32) (z : Nat) (i0 : Int32) (n0 : Int32) (hz : z ≤ 40) : Met l yX8_reaches wsX8_reaches (rmD 0) (pPre D (TY cy) ([(a, .inr (7, [.ref b, .int ln, .int (nI z)]))]) sz [.ref a, .int i0, .int n0]) (pI D (TY cy) ([(a, .inr (7, [.ref b, .int ln, .int (nI z)]))]) sz (fun _ : Unit => [(a, .inr (7, [.ref b, .int ln, .int (nI z)]))]) (fun (r_ : Int32) (_ : Unit) => r_ = bI (isPrt i0 n0 (nI z)))) 0 0 (va_A ([(a, .inr (7, [.ref b, .int ln, .int (nI z)]))]) sz) := by
  refine ent_z (cc := cX8_reaches) (maxL := 3) (by decide +kernel) rfl (Nat.le_of_ble_eq_true rfl) ?_
  intro p_ e_ s_ m_ args_ below_ meth_ c_ A_ Q_ ls B0 ret
  obtain ⟨CF, hA, hKN, hP, hD, hl⟩ := B0
  have hK := hKN.1
  obtain ⟨hx, hb, hml, hown, hts⟩ := id CF
  have hS : va_S A_ s_.heap s_.heap [] := va_S.rf
  have hl : lv_has ls 3 [(0, .ref a), (1, .int i0), (2, .int n0)] := hl
  have hf28 := hts (.fieldLink RX8 28 "DrawerCards$Row" "length" "I") (by decide +kernel)
  have hinX8 := show ∀ w ∈ u_ws RX8 TX8 3, w ∈ wsX8_reaches from by decide +kernel
  refine lv_iload_n hx hb dX8_reaches_0 rfl (lv_at hl 1 rfl) ?_
  refine lv_if_lt (tgt := 26) hx hb dX8_reaches_1 (by decide) (fun c1 => ?_) (fun c1 => ?_)
  · refine lv_iconst (v := nI 0) hx hb dX8_reaches_26 (by decide) ?_
    exact ret _ () _ _ _ _ dX8_reaches_27 rfl (by rw [bI_f (by first | exact rch_n hz c1 c5 c19 | exact (fun z => Int32.not_lt.mpr z.1 c1) | exact (fun z => Int32.not_lt.mpr z.2.1 c5))]; rfl) hP hD hS
  · refine lv_iload_n hx hb dX8_reaches_4 rfl (lv_at hl 2 rfl) ?_
    refine lv_if_lt (tgt := 26) hx hb dX8_reaches_5 (by decide) (fun c5 => ?_) (fun c5 => ?_)
    · refine lv_iconst (v := nI 0) hx hb dX8_reaches_26 (by decide) ?_
      exact ret _ () _ _ _ _ dX8_reaches_27 rfl (by rw [bI_f (by first | exact rch_n hz c1 c5 c19 | exact (fun z => Int32.not_lt.mpr z.1 c1) | exact (fun z => Int32.not_lt.mpr z.2.1 c5))]; rfl) hP hD hS
    · refine lv_iload_n hx hb dX8_reaches_8 rfl (lv_at hl 1 rfl) ?_
      refine lv_i2l hx hb dX8_reaches_9 rfl ?_
      refine lv_iload_n hx hb dX8_reaches_10 rfl (lv_at hl 2 rfl) ?_
      refine lv_i2l hx hb dX8_reaches_11 rfl ?_
      refine lv_ladd hx hb dX8_reaches_12 ?_
      refine lv_aload_n hx hb dX8_reaches_13 rfl (lv_at hl 0 rfl) ?_
      refine va_get (ci := 7) (v := .int (nI z)) (C := RX8) (T := TX8) (N := 3) hx hb hts hinX8 hown hK hP 0 rfl rfl 2 (by decide) hf28 (fun _ h9 => h9) rfl dX8_reaches_14 ?_
      refine lv_i2l (v := lN z) hx hb dX8_reaches_17 (nI_l (by omega)) ?_
      refine W.lcmp hx hb dX8_reaches_18 ?_
      refine lv_if_gt (tgt := 26) hx hb dX8_reaches_19 (by decide) (fun c19 => ?_) (fun c19 => ?_)
      · replace c19 := (lg_cmp_gt _ _).mp c19
        refine lv_iconst (v := nI 0) hx hb dX8_reaches_26 (by decide) ?_
        exact ret _ () _ _ _ _ dX8_reaches_27 rfl (by rw [bI_f (by first | exact rch_n hz c1 c5 c19 | exact (fun z => Int32.not_lt.mpr z.1 c1) | exact (fun z => Int32.not_lt.mpr z.2.1 c5))]; rfl) hP hD hS
      · replace c19 := mt (lg_cmp_gt _ _).mpr c19
        refine lv_iconst (v := nI 1) hx hb dX8_reaches_22 (by decide) ?_
        refine lv_goto (tgt := 27) hx hb dX8_reaches_23 (by decide) ?_
        exact ret _ () _ _ _ _ dX8_reaches_27 rfl (by rw [bI_t (rch_y hz c1 c5 c19)]; rfl) hP hD hS
set_option maxHeartbeats 4000000 in
set_option maxRecDepth 100000 in
theorem k_X8_item (l : Launch) (D : va_G) (cy : Nat → ClassId) (sz : Nat) (a : Nat) (b : Nat) (ln : Int32) (z : Nat) (f : Nat → Int32) (j : Nat) (hz : z ≤ 40) (hj : j < z) : Met l yX8_item wsX8_item (rmD 1) (pPre D (TY cy) ([(a, .inr (7, [.ref b, .int ln, .int (nI z)])), (b, wInt (cy 0) 40 f)]) sz [.ref a, .int (nI j)]) (pI D (TY cy) ([(a, .inr (7, [.ref b, .int ln, .int (nI z)])), (b, wInt (cy 0) 40 f)]) sz (fun _ : Unit => [(a, .inr (7, [.ref b, .int ln, .int (nI z)])), (b, wInt (cy 0) 40 f)]) (fun (r_ : Int32) (_ : Unit) => r_ = (f j))) 0 0 (va_A ([(a, .inr (7, [.ref b, .int ln, .int (nI z)])), (b, wInt (cy 0) 40 f)]) sz) := by
  refine ent_i (cc := cX8_item) (maxL := 2) (by decide +kernel) rfl (Nat.le_of_ble_eq_true rfl) ?_
  intro p_ e_ s_ m_ args_ below_ meth_ c_ A_ Q_ ls B0 ret
  obtain ⟨CF, hA, hKN, hP, hD, hl⟩ := B0
  have hK := hKN.1
  obtain ⟨hx, hb, hml, hown, hts⟩ := id CF
  have hS : va_S A_ s_.heap s_.heap [] := va_S.rf
  have hl : lv_has ls 2 [(0, .ref a), (1, .int (nI j))] := hl
  have hf9 := hts (.fieldLink RX8 9 "DrawerCards$Row" "items" "[I") (by decide +kernel)
  have hinX8 := show ∀ w ∈ u_ws RX8 TX8 3, w ∈ wsX8_item from by decide +kernel
  refine lv_aload_n hx hb dX8_item_0 rfl (lv_at hl 0 rfl) ?_
  refine lv_iload_n hx hb dX8_item_1 rfl (lv_at hl 1 rfl) ?_
  refine lv_iconst (v := nI 1) hx hb dX8_item_2 (by decide) ?_
  refine call_i (wr := [(b, wInt (cy 0) 40 f)]) (ws' := (fun _ : Unit => [(a, .inr (7, [.ref b, .int ln, .int (nI z)])), (b, wInt (cy 0) 40 f)])) (va_runV (As := [.int (nI j), .int (nI 1)]) (rest := []) CF (k_X8_reaches l D cy _ a b ln z (nI j) (nI 1) (by first | assumption | omega | decide)) (cwV 2 hts gX8_item_X8_reaches rfl rfl rfl (by decide +kernel) ⟨Nat.le_of_ble_eq_true rfl, Nat.le_of_ble_eq_true rfl⟩) (pre_V hKN hP hD [0] rfl (by decide) 0 7 rfl rfl) rfl rfl hl.1 rfl (lv_room (Nat.le_of_ble_eq_true rfl)) dX8_item_3 ⟨Nat.le_of_ble_eq_true rfl, Nat.le_of_ble_eq_true rfl⟩) hS hA hP hD [0] [1] [1, 0] rfl rfl (by decide) (by decide) (fun _ => rfl) (by decide) (fun r2 u1 H locs hw3 hP hD hS => ?_)
  replace hw3 := hw3.symm; subst hw3
  refine ifeqB (tgt := 18) hx hb dX8_item_6 (by decide) (fun c6 => absurd c6 (fun q => q (prt_1 hz hj))) (fun c6 => ?_)
  refine lv_aload_n hx hb dX8_item_9 rfl (lv_at hl 0 rfl) ?_
  refine va_get (ci := 7) (v := .ref b) (C := RX8) (T := TX8) (N := 3) hx hb hts hinX8 hown hK hP 0 rfl rfl 0 (by decide) hf9 (fun _ h9 => h9) rfl dX8_item_10 ?_
  refine lv_iload_n hx hb dX8_item_13 rfl (lv_at hl 1 rfl) ?_
  refine ldN (f := f) hx hb hK hP 1 rfl (j := j) (by omega) (by decide) dX8_item_14 ?_
  refine lv_goto (tgt := 19) hx hb dX8_item_15 (by decide) ?_
  exact ret _ () _ _ _ _ dX8_item_19 rfl hP hD hS
set_option maxHeartbeats 4000000 in
set_option maxRecDepth 100000 in
theorem k_X8_store (l : Launch) (D : va_G) (cy : Nat → ClassId) (sz : Nat) (a : Nat) (b : Nat) (ln : Int32) (z : Nat) (f : Nat → Int32) (j : Nat) (w : Int32) (hz : z ≤ 40) (hj : j < z) : Met l yX8_store wsX8_store (rmD 1) (pPre D (TY cy) ([(a, .inr (7, [.ref b, .int ln, .int (nI z)])), (b, wInt (cy 0) 40 f)]) sz [.ref a, .int (nI j), .int w]) (pV D (TY cy) ([(a, .inr (7, [.ref b, .int ln, .int (nI z)])), (b, wInt (cy 0) 40 f)]) sz (fun g : Nat → Int32 => [(a, .inr (7, [.ref b, .int ln, .int (nI z)])), (b, wInt (cy 0) 40 g)]) (fun (u : (Nat → Int32)) => u = upd f j (lane3 ln w))) 0 0 (va_A ([(a, .inr (7, [.ref b, .int ln, .int (nI z)])), (b, wInt (cy 0) 40 f)]) sz) := by
  refine ent_v (cc := cX8_store) (maxL := 3) (by decide +kernel) rfl (Nat.le_of_ble_eq_true rfl) ?_
  intro p_ e_ s_ m_ args_ below_ meth_ c_ A_ Q_ ls B0 ret
  obtain ⟨CF, hA, hKN, hP, hD, hl⟩ := B0
  have hK := hKN.1
  obtain ⟨hx, hb, hml, hown, hts⟩ := id CF
  have hS : va_S A_ s_.heap s_.heap [] := va_S.rf
  have hl : lv_has ls 3 [(0, .ref a), (1, .int (nI j)), (2, .int w)] := hl
  have hf9 := hts (.fieldLink RX8 9 "DrawerCards$Row" "items" "[I") (by decide +kernel)
  have hinX8 := show ∀ w ∈ u_ws RX8 TX8 3, w ∈ wsX8_store from by decide +kernel
  have hf15 := hts (.fieldLink RX8 15 "DrawerCards$Row" "lane" "I") (by decide +kernel)
  refine lv_aload_n hx hb dX8_store_0 rfl (lv_at hl 0 rfl) ?_
  refine lv_iload_n hx hb dX8_store_1 rfl (lv_at hl 1 rfl) ?_
  refine lv_iconst (v := nI 1) hx hb dX8_store_2 (by decide) ?_
  refine call_i (wr := [(b, wInt (cy 0) 40 f)]) (ws' := (fun _ : Unit => [(a, .inr (7, [.ref b, .int ln, .int (nI z)])), (b, wInt (cy 0) 40 f)])) (va_runV (As := [.int (nI j), .int (nI 1)]) (rest := []) CF (k_X8_reaches l D cy _ a b ln z (nI j) (nI 1) (by first | assumption | omega | decide)) (cwV 2 hts gX8_store_X8_reaches rfl rfl rfl (by decide +kernel) ⟨Nat.le_of_ble_eq_true rfl, Nat.le_of_ble_eq_true rfl⟩) (pre_V hKN hP hD [0] rfl (by decide) 0 7 rfl rfl) rfl rfl hl.1 rfl (lv_room (Nat.le_of_ble_eq_true rfl)) dX8_store_3 ⟨Nat.le_of_ble_eq_true rfl, Nat.le_of_ble_eq_true rfl⟩) hS hA hP hD [0] [1] [1, 0] rfl rfl (by decide) (by decide) (fun _ => rfl) (by decide) (fun r2 u1 H locs hw3 hP hD hS => ?_)
  replace hw3 := hw3.symm; subst hw3
  refine ifneB (tgt := 10) hx hb dX8_store_6 (by decide) (fun c6 => ?_) (fun c6 => absurd c6 (fun q => q (prt_1 hz hj)))
  refine lv_aload_n hx hb dX8_store_10 rfl (lv_at hl 0 rfl) ?_
  refine va_get (ci := 7) (v := .ref b) (C := RX8) (T := TX8) (N := 3) hx hb hts hinX8 hown hK hP 0 rfl rfl 0 (by decide) hf9 (fun _ h9 => h9) rfl dX8_store_11 ?_
  refine lv_iload_n hx hb dX8_store_14 rfl (lv_at hl 1 rfl) ?_
  refine lv_aload_n hx hb dX8_store_15 rfl (lv_at hl 0 rfl) ?_
  refine va_get (ci := 7) (v := .int ln) (C := RX8) (T := TX8) (N := 3) hx hb hts hinX8 hown hK hP 0 rfl rfl 1 (by decide) hf15 (fun _ h9 => h9) rfl dX8_store_16 ?_
  refine lv_if_ne (tgt := 27) hx hb dX8_store_19 (by decide) (fun c19 => ?_) (fun c19 => ?_)
  · refine lv_aload_n hx hb dX8_store_27 rfl (lv_at hl 0 rfl) ?_
    refine va_get (ci := 7) (v := .int ln) (C := RX8) (T := TX8) (N := 3) hx hb hts hinX8 hown hK hP 0 rfl rfl 1 (by decide) hf15 (fun _ h9 => h9) rfl dX8_store_28 ?_
    refine lv_iconst (v := nI 1) hx hb dX8_store_31 (by decide) ?_
    refine lv_icmp_ne (tgt := 40) hx hb dX8_store_32 (by decide) (fun c32 => ?_) (fun c32 => ?_)
    · refine lv_iload_n hx hb dX8_store_40 rfl (lv_at hl 2 rfl) ?_
      refine stN (f := f) (ws' := [(a, .inr (7, [.ref b, .int ln, .int (nI z)])), (b, wInt (cy 0) 40 (upd f j w))]) hx hb hK hP hD hS 1 rfl (j := j) (by omega) (by decide) dX8_store_41 rfl (fun H locs hP hD hS => ?_)
      exact ret (upd f j w) _ _ _ _ dX8_store_42 (by rw [lane3]; first | (rw [if_pos c19]; done) | (rw [if_neg c19, if_pos c32]; done) | (rw [if_neg c19, if_neg c32]; done)) hP hD hS
    · refine lv_iload_n hx hb dX8_store_35 rfl (lv_at hl 2 rfl) ?_
      refine lv_i2s hx hb dX8_store_36 rfl ?_
      refine lv_goto (tgt := 41) hx hb dX8_store_37 (by decide) ?_
      refine stN (f := f) (ws' := [(a, .inr (7, [.ref b, .int ln, .int (nI z)])), (b, wInt (cy 0) 40 (upd f j ((w).toInt16.toInt32)))]) hx hb hK hP hD hS 1 rfl (j := j) (by omega) (by decide) dX8_store_41 rfl (fun H locs hP hD hS => ?_)
      exact ret (upd f j ((w).toInt16.toInt32)) _ _ _ _ dX8_store_42 (by rw [lane3]; first | (rw [if_pos c19]; done) | (rw [if_neg c19, if_pos c32]; done) | (rw [if_neg c19, if_neg c32]; done)) hP hD hS
  · refine lv_iload_n hx hb dX8_store_22 rfl (lv_at hl 2 rfl) ?_
    refine lv_i2b hx hb dX8_store_23 rfl ?_
    refine lv_goto (tgt := 41) hx hb dX8_store_24 (by decide) ?_
    refine stN (f := f) (ws' := [(a, .inr (7, [.ref b, .int ln, .int (nI z)])), (b, wInt (cy 0) 40 (upd f j ((w).toInt8.toInt32)))]) hx hb hK hP hD hS 1 rfl (j := j) (by omega) (by decide) dX8_store_41 rfl (fun H locs hP hD hS => ?_)
    exact ret (upd f j ((w).toInt8.toInt32)) _ _ _ _ dX8_store_42 (by rw [lane3]; first | (rw [if_pos c19]; done) | (rw [if_neg c19, if_pos c32]; done) | (rw [if_neg c19, if_neg c32]; done)) hP hD hS
set_option maxHeartbeats 4000000 in
set_option maxRecDepth 100000 in
theorem k_X8_takes (l : Launch) (D : va_G) (cy : Nat → ClassId) (sz : Nat) (a : Nat) (b : Nat) (ln : Int32) (z : Nat) (f : Nat → Int32) (i : Nat) (j : Nat) (m : Nat) (hz : z ≤ 40) (hi : i + m ≤ z) (hj : j + m ≤ z) : Met l yX8_take wsX8_take (rmD 1) (pPre D (TY cy) ([(a, .inr (7, [.ref b, .int ln, .int (nI z)])), (b, wInt (cy 0) 40 f)]) sz [.ref a, .ref a, .int (nI i), .int (nI j), .int (nI m)]) (pV D (TY cy) ([(a, .inr (7, [.ref b, .int ln, .int (nI z)])), (b, wInt (cy 0) 40 f)]) sz (fun g : Nat → Int32 => [(a, .inr (7, [.ref b, .int ln, .int (nI z)])), (b, wInt (cy 0) 40 g)]) (fun (u : (Nat → Int32)) => u = va_cpy f f i j m)) 0 0 (va_A ([(a, .inr (7, [.ref b, .int ln, .int (nI z)])), (b, wInt (cy 0) 40 f)]) sz) := by
  refine ent_v (cc := cX8_take) (maxL := 5) (by decide +kernel) rfl (Nat.le_of_ble_eq_true rfl) ?_
  intro p_ e_ s_ m_ args_ below_ meth_ c_ A_ Q_ ls B0 ret
  obtain ⟨CF, hA, hKN, hP, hD, hl⟩ := B0
  have hK := hKN.1
  obtain ⟨hx, hb, hml, hown, hts⟩ := id CF
  have hS : va_S A_ s_.heap s_.heap [] := va_S.rf
  have hl : lv_has ls 5 [(0, .ref a), (1, .ref a), (2, .int (nI i)), (3, .int (nI j)), (4, .int (nI m))] := hl
  have hf9 := hts (.fieldLink RX8 9 "DrawerCards$Row" "items" "[I") (by decide +kernel)
  have hinX8 := show ∀ w ∈ u_ws RX8 TX8 3, w ∈ wsX8_take from by decide +kernel
  have hm35 := hts (.methodLink RX8 35 arraycopyName) (by decide +kernel)
  have hmn := hts (.native arraycopyName) (by decide +kernel)
  have hms := hts (.static arraycopyName) (by decide +kernel)
  have hmi := hts (.initialized "java/lang/System") (by decide +kernel)
  refine lv_aload_n hx hb dX8_take_0 rfl (lv_at hl 1 rfl) ?_
  refine lv_iload_n hx hb dX8_take_1 rfl (lv_at hl 2 rfl) ?_
  refine lv_iload hx hb dX8_take_2 (lv_at hl 4 rfl) ?_
  refine call_i (wr := [(b, wInt (cy 0) 40 f)]) (ws' := (fun _ : Unit => [(a, .inr (7, [.ref b, .int ln, .int (nI z)])), (b, wInt (cy 0) 40 f)])) (va_runV (As := [.int (nI i), .int (nI m)]) (rest := []) CF (k_X8_reaches l D cy _ a b ln z (nI i) (nI m) (by first | assumption | omega | decide)) (cwV 2 hts gX8_take_X8_reaches rfl rfl rfl (by decide +kernel) ⟨Nat.le_of_ble_eq_true rfl, Nat.le_of_ble_eq_true rfl⟩) (pre_V hKN hP hD [0] rfl (by decide) 0 7 rfl rfl) rfl rfl hl.1 rfl (lv_room (Nat.le_of_ble_eq_true rfl)) dX8_take_4 ⟨Nat.le_of_ble_eq_true rfl, Nat.le_of_ble_eq_true rfl⟩) hS hA hP hD [0] [1] [1, 0] rfl rfl (by decide) (by decide) (fun _ => rfl) (by decide) (fun r2 u1 H locs hw3 hP hD hS => ?_)
  replace hw3 := hw3.symm; subst hw3
  refine ifeqB (tgt := 20) hx hb dX8_take_7 (by decide) (fun c7 => absurd c7 (fun q => q (prt_n hz hi))) (fun c7 => ?_)
  refine lv_aload_n hx hb dX8_take_10 rfl (lv_at hl 0 rfl) ?_
  refine lv_iload_n hx hb dX8_take_11 rfl (lv_at hl 3 rfl) ?_
  refine lv_iload hx hb dX8_take_12 (lv_at hl 4 rfl) ?_
  refine call_i (wr := [(b, wInt (cy 0) 40 f)]) (ws' := (fun _ : Unit => [(a, .inr (7, [.ref b, .int ln, .int (nI z)])), (b, wInt (cy 0) 40 f)])) (va_runV (As := [.int (nI j), .int (nI m)]) (rest := []) CF (k_X8_reaches l D cy _ a b ln z (nI j) (nI m) (by first | assumption | omega | decide)) (cwV 2 hts gX8_take_X8_reaches rfl rfl rfl (by decide +kernel) ⟨Nat.le_of_ble_eq_true rfl, Nat.le_of_ble_eq_true rfl⟩) (pre_V hKN hP hD [0] rfl (by decide) 0 7 rfl rfl) rfl rfl hl.1 rfl (lv_room (Nat.le_of_ble_eq_true rfl)) dX8_take_14 ⟨Nat.le_of_ble_eq_true rfl, Nat.le_of_ble_eq_true rfl⟩) hS hA hP hD [0] [1] [1, 0] rfl rfl (by decide) (by decide) (fun _ => rfl) (by decide) (fun r5 u4 H locs hw6 hP hD hS => ?_)
  replace hw6 := hw6.symm; subst hw6
  refine ifneB (tgt := 21) hx hb dX8_take_17 (by decide) (fun c17 => ?_) (fun c17 => absurd c17 (fun q => q (prt_n hz hj)))
  refine lv_aload_n hx hb dX8_take_21 rfl (lv_at hl 1 rfl) ?_
  refine va_get (ci := 7) (v := .ref b) (C := RX8) (T := TX8) (N := 3) hx hb hts hinX8 hown hK hP 0 rfl rfl 0 (by decide) hf9 (fun _ h9 => h9) rfl dX8_take_22 ?_
  refine lv_iload_n hx hb dX8_take_25 rfl (lv_at hl 2 rfl) ?_
  refine lv_aload_n hx hb dX8_take_26 rfl (lv_at hl 0 rfl) ?_
  refine va_get (ci := 7) (v := .ref b) (C := RX8) (T := TX8) (N := 3) hx hb hts hinX8 hown hK hP 0 rfl rfl 0 (by decide) hf9 (fun _ h9 => h9) rfl dX8_take_27 ?_
  refine lv_iload_n hx hb dX8_take_30 rfl (lv_at hl 3 rfl) ?_
  refine lv_iload hx hb dX8_take_31 (lv_at hl 4 rfl) ?_
  refine cpN (f := f) (g := f) (ws' := [(a, .inr (7, [.ref b, .int ln, .int (nI z)])), (b, wInt (cy 0) 40 (va_cpy f f i j m))]) hx hb (hml.trans hl.1.symm) hown hm35 hmn hms hmi hK hP hD hS 1 1 rfl rfl (by omega) (by omega) (by omega) (by omega) (Nat.le_of_ble_eq_true rfl) (Nat.le_of_ble_eq_true rfl) dX8_take_33 rfl (fun H locs hP hD hS => ?_)
  exact ret (va_cpy f f i j m) _ _ _ _ dX8_take_36 rfl hP hD hS
set_option maxHeartbeats 4000000 in
set_option maxRecDepth 100000 in
theorem k_X8_taked (l : Launch) (D : va_G) (cy : Nat → ClassId) (sz : Nat) (a : Nat) (b : Nat) (ln : Int32) (z : Nat) (f : Nat → Int32) (a2 : Nat) (b2 : Nat) (ln2 : Int32) (z2 : Nat) (f2 : Nat → Int32) (i : Nat) (j : Nat) (m : Nat) (hz : z ≤ 40) (hz2 : z2 ≤ 40) (hi : i + m ≤ z2) (hj : j + m ≤ z) : Met l yX8_take wsX8_take (rmD 1) (pPre D (TY cy) ([(a, .inr (7, [.ref b, .int ln, .int (nI z)])), (b, wInt (cy 0) 40 f), (a2, .inr (7, [.ref b2, .int ln2, .int (nI z2)])), (b2, wInt (cy 0) 40 f2)]) sz [.ref a, .ref a2, .int (nI i), .int (nI j), .int (nI m)]) (pV D (TY cy) ([(a, .inr (7, [.ref b, .int ln, .int (nI z)])), (b, wInt (cy 0) 40 f), (a2, .inr (7, [.ref b2, .int ln2, .int (nI z2)])), (b2, wInt (cy 0) 40 f2)]) sz (fun g : Nat → Int32 => [(a, .inr (7, [.ref b, .int ln, .int (nI z)])), (b, wInt (cy 0) 40 g), (a2, .inr (7, [.ref b2, .int ln2, .int (nI z2)])), (b2, wInt (cy 0) 40 f2)]) (fun (u : (Nat → Int32)) => u = va_cpy f2 f i j m)) 0 0 (va_A ([(a, .inr (7, [.ref b, .int ln, .int (nI z)])), (b, wInt (cy 0) 40 f), (a2, .inr (7, [.ref b2, .int ln2, .int (nI z2)])), (b2, wInt (cy 0) 40 f2)]) sz) := by
  refine ent_v (cc := cX8_take) (maxL := 5) (by decide +kernel) rfl (Nat.le_of_ble_eq_true rfl) ?_
  intro p_ e_ s_ m_ args_ below_ meth_ c_ A_ Q_ ls B0 ret
  obtain ⟨CF, hA, hKN, hP, hD, hl⟩ := B0
  have hK := hKN.1
  obtain ⟨hx, hb, hml, hown, hts⟩ := id CF
  have hS : va_S A_ s_.heap s_.heap [] := va_S.rf
  have hl : lv_has ls 5 [(0, .ref a), (1, .ref a2), (2, .int (nI i)), (3, .int (nI j)), (4, .int (nI m))] := hl
  have hf9 := hts (.fieldLink RX8 9 "DrawerCards$Row" "items" "[I") (by decide +kernel)
  have hinX8 := show ∀ w ∈ u_ws RX8 TX8 3, w ∈ wsX8_take from by decide +kernel
  have hm35 := hts (.methodLink RX8 35 arraycopyName) (by decide +kernel)
  have hmn := hts (.native arraycopyName) (by decide +kernel)
  have hms := hts (.static arraycopyName) (by decide +kernel)
  have hmi := hts (.initialized "java/lang/System") (by decide +kernel)
  refine lv_aload_n hx hb dX8_take_0 rfl (lv_at hl 1 rfl) ?_
  refine lv_iload_n hx hb dX8_take_1 rfl (lv_at hl 2 rfl) ?_
  refine lv_iload hx hb dX8_take_2 (lv_at hl 4 rfl) ?_
  refine call_i (wr := [(a, .inr (7, [.ref b, .int ln, .int (nI z)])), (b, wInt (cy 0) 40 f), (b2, wInt (cy 0) 40 f2)]) (ws' := (fun _ : Unit => [(a, .inr (7, [.ref b, .int ln, .int (nI z)])), (b, wInt (cy 0) 40 f), (a2, .inr (7, [.ref b2, .int ln2, .int (nI z2)])), (b2, wInt (cy 0) 40 f2)])) (va_runV (As := [.int (nI i), .int (nI m)]) (rest := []) CF (k_X8_reaches l D cy _ a2 b2 ln2 z2 (nI i) (nI m) (by first | assumption | omega | decide)) (cwV 2 hts gX8_take_X8_reaches rfl rfl rfl (by decide +kernel) ⟨Nat.le_of_ble_eq_true rfl, Nat.le_of_ble_eq_true rfl⟩) (pre_V hKN hP hD [2] rfl (by decide) 2 7 rfl rfl) rfl rfl hl.1 rfl (lv_room (Nat.le_of_ble_eq_true rfl)) dX8_take_4 ⟨Nat.le_of_ble_eq_true rfl, Nat.le_of_ble_eq_true rfl⟩) hS hA hP hD [2] [0, 1, 3] [0, 1, 3, 2] rfl rfl (by decide) (by decide) (fun _ => rfl) (by decide) (fun r2 u1 H locs hw3 hP hD hS => ?_)
  replace hw3 := hw3.symm; subst hw3
  refine ifeqB (tgt := 20) hx hb dX8_take_7 (by decide) (fun c7 => absurd c7 (fun q => q (prt_n hz2 hi))) (fun c7 => ?_)
  refine lv_aload_n hx hb dX8_take_10 rfl (lv_at hl 0 rfl) ?_
  refine lv_iload_n hx hb dX8_take_11 rfl (lv_at hl 3 rfl) ?_
  refine lv_iload hx hb dX8_take_12 (lv_at hl 4 rfl) ?_
  refine call_i (wr := [(b, wInt (cy 0) 40 f), (a2, .inr (7, [.ref b2, .int ln2, .int (nI z2)])), (b2, wInt (cy 0) 40 f2)]) (ws' := (fun _ : Unit => [(a, .inr (7, [.ref b, .int ln, .int (nI z)])), (b, wInt (cy 0) 40 f), (a2, .inr (7, [.ref b2, .int ln2, .int (nI z2)])), (b2, wInt (cy 0) 40 f2)])) (va_runV (As := [.int (nI j), .int (nI m)]) (rest := []) CF (k_X8_reaches l D cy _ a b ln z (nI j) (nI m) (by first | assumption | omega | decide)) (cwV 2 hts gX8_take_X8_reaches rfl rfl rfl (by decide +kernel) ⟨Nat.le_of_ble_eq_true rfl, Nat.le_of_ble_eq_true rfl⟩) (pre_V hKN hP hD [0] rfl (by decide) 0 7 rfl rfl) rfl rfl hl.1 rfl (lv_room (Nat.le_of_ble_eq_true rfl)) dX8_take_14 ⟨Nat.le_of_ble_eq_true rfl, Nat.le_of_ble_eq_true rfl⟩) hS hA hP hD [0] [1, 2, 3] [3, 0, 1, 2] rfl rfl (by decide) (by decide) (fun _ => rfl) (by decide) (fun r5 u4 H locs hw6 hP hD hS => ?_)
  replace hw6 := hw6.symm; subst hw6
  refine ifneB (tgt := 21) hx hb dX8_take_17 (by decide) (fun c17 => ?_) (fun c17 => absurd c17 (fun q => q (prt_n hz hj)))
  refine lv_aload_n hx hb dX8_take_21 rfl (lv_at hl 1 rfl) ?_
  refine va_get (ci := 7) (v := .ref b2) (C := RX8) (T := TX8) (N := 3) hx hb hts hinX8 hown hK hP 2 rfl rfl 0 (by decide) hf9 (fun _ h9 => h9) rfl dX8_take_22 ?_
  refine lv_iload_n hx hb dX8_take_25 rfl (lv_at hl 2 rfl) ?_
  refine lv_aload_n hx hb dX8_take_26 rfl (lv_at hl 0 rfl) ?_
  refine va_get (ci := 7) (v := .ref b) (C := RX8) (T := TX8) (N := 3) hx hb hts hinX8 hown hK hP 0 rfl rfl 0 (by decide) hf9 (fun _ h9 => h9) rfl dX8_take_27 ?_
  refine lv_iload_n hx hb dX8_take_30 rfl (lv_at hl 3 rfl) ?_
  refine lv_iload hx hb dX8_take_31 (lv_at hl 4 rfl) ?_
  refine cpN (f := f2) (g := f) (ws' := [(a, .inr (7, [.ref b, .int ln, .int (nI z)])), (b, wInt (cy 0) 40 (va_cpy f2 f i j m)), (a2, .inr (7, [.ref b2, .int ln2, .int (nI z2)])), (b2, wInt (cy 0) 40 f2)]) hx hb (hml.trans hl.1.symm) hown hm35 hmn hms hmi hK hP hD hS 3 1 rfl rfl (by omega) (by omega) (by omega) (by omega) (Nat.le_of_ble_eq_true rfl) (Nat.le_of_ble_eq_true rfl) dX8_take_33 rfl (fun H locs hP hD hS => ?_)
  exact ret (va_cpy f2 f i j m) _ _ _ _ dX8_take_36 rfl hP hD hS
set_option maxHeartbeats 4000000 in
set_option maxRecDepth 100000 in
theorem k_X0_start (l : Launch) (D : va_G) (cy : Nat → ClassId) (sz : Nat) (a : Nat) (b : Nat) (z : Nat) (cd : Int32) (lk : Int32) (pl : Int32) (x : Int32) (y : Int32) (w : Int32)  : Met l yX0_start wsX0_start (rmD 0) (pPre D (TY cy) ([(a, .inr (0, [.ref b, .int (nI z), .int cd, .int lk, .int pl]))]) sz [.ref a, .int x, .int y, .int w]) (pV D (TY cy) ([(a, .inr (0, [.ref b, .int (nI z), .int cd, .int lk, .int pl]))]) sz (fun _ : Unit => [(a, .inr (0, [.ref b, .int (nI 0), .int x, .int y, .int w]))]) (fun (_ : Unit) => True)) 0 0 (va_A ([(a, .inr (0, [.ref b, .int (nI z), .int cd, .int lk, .int pl]))]) sz) := by
  refine ent_v (cc := cX0_start) (maxL := 4) (by decide +kernel) rfl (Nat.le_of_ble_eq_true rfl) ?_
  intro p_ e_ s_ m_ args_ below_ meth_ c_ A_ Q_ ls B0 ret
  obtain ⟨CF, hA, hKN, hP, hD, hl⟩ := B0
  have hK := hKN.1
  obtain ⟨hx, hb, hml, hown, hts⟩ := id CF
  have hS : va_S A_ s_.heap s_.heap [] := va_S.rf
  have hl : lv_has ls 4 [(0, .ref a), (1, .int x), (2, .int y), (3, .int w)] := hl
  have hf15 := hts (.fieldLink RX0 15 "DrawerCards$Asking" "length" "I") (by decide +kernel)
  have hinX0 := show ∀ w ∈ u_ws RX0 TX0 5, w ∈ wsX0_start from by decide +kernel
  have hf19 := hts (.fieldLink RX0 19 "DrawerCards$Asking" "card" "I") (by decide +kernel)
  have hf22 := hts (.fieldLink RX0 22 "DrawerCards$Asking" "liked" "I") (by decide +kernel)
  have hf25 := hts (.fieldLink RX0 25 "DrawerCards$Asking" "place" "I") (by decide +kernel)
  refine lv_aload_n hx hb dX0_start_0 rfl (lv_at hl 0 rfl) ?_
  refine lv_iconst (v := nI 0) hx hb dX0_start_1 (by decide) ?_
  refine va_put (ci := 0) (v := .int (nI 0)) (ty := .int) (C := RX0) (T := TX0) (N := 5) hx hb hts hinX0 tyX0 tyX0_ok nmX0 hown hK hP hD hS 0 rfl rfl 1 (by decide) hf15 (fun _ h9 => h9) rfl (by decide +kernel) rfl rfl (Nat.le_of_ble_eq_true rfl) dX0_start_2 (fun H locs hP hD hS => ?_)
  have hP : va_P D vwCl ([(a, .inr (0, [.ref b, .int (nI 0), .int cd, .int lk, .int pl]))]) H := hP
  have hD : va_D A_ ([(a, .inr (0, [.ref b, .int (nI 0), .int cd, .int lk, .int pl]))]) := hD
  refine lv_aload_n hx hb dX0_start_5 rfl (lv_at hl 0 rfl) ?_
  refine lv_iload_n hx hb dX0_start_6 rfl (lv_at hl 1 rfl) ?_
  refine va_put (ci := 0) (v := .int x) (ty := .int) (C := RX0) (T := TX0) (N := 5) hx hb hts hinX0 tyX0 tyX0_ok nmX0 hown hK hP hD hS 0 rfl rfl 2 (by decide) hf19 (fun _ h9 => h9) rfl (by decide +kernel) rfl rfl (Nat.le_of_ble_eq_true rfl) dX0_start_7 (fun H locs hP hD hS => ?_)
  have hP : va_P D vwCl ([(a, .inr (0, [.ref b, .int (nI 0), .int x, .int lk, .int pl]))]) H := hP
  have hD : va_D A_ ([(a, .inr (0, [.ref b, .int (nI 0), .int x, .int lk, .int pl]))]) := hD
  refine lv_aload_n hx hb dX0_start_10 rfl (lv_at hl 0 rfl) ?_
  refine lv_iload_n hx hb dX0_start_11 rfl (lv_at hl 2 rfl) ?_
  refine va_put (ci := 0) (v := .int y) (ty := .int) (C := RX0) (T := TX0) (N := 5) hx hb hts hinX0 tyX0 tyX0_ok nmX0 hown hK hP hD hS 0 rfl rfl 3 (by decide) hf22 (fun _ h9 => h9) rfl (by decide +kernel) rfl rfl (Nat.le_of_ble_eq_true rfl) dX0_start_12 (fun H locs hP hD hS => ?_)
  have hP : va_P D vwCl ([(a, .inr (0, [.ref b, .int (nI 0), .int x, .int y, .int pl]))]) H := hP
  have hD : va_D A_ ([(a, .inr (0, [.ref b, .int (nI 0), .int x, .int y, .int pl]))]) := hD
  refine lv_aload_n hx hb dX0_start_15 rfl (lv_at hl 0 rfl) ?_
  refine lv_iload_n hx hb dX0_start_16 rfl (lv_at hl 3 rfl) ?_
  refine va_put (ci := 0) (v := .int w) (ty := .int) (C := RX0) (T := TX0) (N := 5) hx hb hts hinX0 tyX0 tyX0_ok nmX0 hown hK hP hD hS 0 rfl rfl 4 (by decide) hf25 (fun _ h9 => h9) rfl (by decide +kernel) rfl rfl (Nat.le_of_ble_eq_true rfl) dX0_start_17 (fun H locs hP hD hS => ?_)
  have hP : va_P D vwCl ([(a, .inr (0, [.ref b, .int (nI 0), .int x, .int y, .int w]))]) H := hP
  have hD : va_D A_ ([(a, .inr (0, [.ref b, .int (nI 0), .int x, .int y, .int w]))]) := hD
  exact ret () _ _ _ _ dX0_start_20 trivial hP hD hS
set_option maxHeartbeats 4000000 in
set_option maxRecDepth 100000 in
theorem k_X0_begin (l : Launch) (D : va_G) (cy : Nat → ClassId) (sz : Nat) (a : Nat) (b : Nat) (z : Nat) (cd : Int32) (lk : Int32) (pl : Int32) (f : Nat → Int32) (x : Nat) (hz : z ≤ 16) : Met l yX0_begin wsX0_begin (rmD 0) (pPre D (TY cy) ([(a, .inr (0, [.ref b, .int (nI z), .int cd, .int lk, .int pl])), (b, wInt (cy 0) 16 f)]) sz [.ref a, .int (nI x)]) (pV D (TY cy) ([(a, .inr (0, [.ref b, .int (nI z), .int cd, .int lk, .int pl])), (b, wInt (cy 0) 16 f)]) sz (fun u : Nat × (Nat → Int32) => [(a, .inr (0, [.ref b, .int (nI u.1), .int cd, .int lk, .int pl])), (b, wInt (cy 0) 16 u.2)]) (fun (u : Nat × (Nat → Int32)) => u = ((tr1 (z, f) x).1, (tr1 (z, f) x).2))) 0 0 (va_A ([(a, .inr (0, [.ref b, .int (nI z), .int cd, .int lk, .int pl])), (b, wInt (cy 0) 16 f)]) sz) := by
  refine ent_v (cc := cX0_begin) (maxL := 2) (by decide +kernel) rfl (Nat.le_of_ble_eq_true rfl) ?_
  intro p_ e_ s_ m_ args_ below_ meth_ c_ A_ Q_ ls B0 ret
  obtain ⟨CF, hA, hKN, hP, hD, hl⟩ := B0
  have hK := hKN.1
  obtain ⟨hx, hb, hml, hown, hts⟩ := id CF
  have hS : va_S A_ s_.heap s_.heap [] := va_S.rf
  have hl : lv_has ls 2 [(0, .ref a), (1, .int (nI x))] := hl
  have hf15 := hts (.fieldLink RX0 15 "DrawerCards$Asking" "length" "I") (by decide +kernel)
  have hinX0 := show ∀ w ∈ u_ws RX0 TX0 5, w ∈ wsX0_begin from by decide +kernel
  have hf11 := hts (.fieldLink RX0 11 "DrawerCards$Asking" "bodies" "[I") (by decide +kernel)
  refine lv_aload_n hx hb dX0_begin_0 rfl (lv_at hl 0 rfl) ?_
  refine va_get (ci := 0) (v := .int (nI z)) (C := RX0) (T := TX0) (N := 5) hx hb hts hinX0 hown hK hP 0 rfl rfl 1 (by decide) hf15 (fun _ h9 => h9) rfl dX0_begin_1 ?_
  refine lv_bipush (v := nI 16) hx hb dX0_begin_4 (by decide) ?_
  refine ltN (tgt := 10) hx hb (by omega) (by decide) dX0_begin_6 (by decide) (fun c6 => ?_) (fun c6 => ?_)
  · refine lv_aload_n hx hb dX0_begin_10 rfl (lv_at hl 0 rfl) ?_
    refine va_get (ci := 0) (v := .ref b) (C := RX0) (T := TX0) (N := 5) hx hb hts hinX0 hown hK hP 0 rfl rfl 0 (by decide) hf11 (fun _ h9 => h9) rfl dX0_begin_11 ?_
    refine lv_aload_n hx hb dX0_begin_14 rfl (lv_at hl 0 rfl) ?_
    refine va_get (ci := 0) (v := .int (nI z)) (C := RX0) (T := TX0) (N := 5) hx hb hts hinX0 hown hK hP 0 rfl rfl 1 (by decide) hf15 (fun _ h9 => h9) rfl dX0_begin_15 ?_
    refine lv_iload_n hx hb dX0_begin_18 rfl (lv_at hl 1 rfl) ?_
    refine stN (f := f) (ws' := [(a, .inr (0, [.ref b, .int (nI z), .int cd, .int lk, .int pl])), (b, wInt (cy 0) 16 (upd f z (nI x)))]) hx hb hK hP hD hS 1 rfl (j := z) (by omega) (by decide) dX0_begin_19 rfl (fun H locs hP hD hS => ?_)
    refine lv_aload_n hx hb dX0_begin_20 rfl (lv_at hl 0 rfl) ?_
    refine lv_dup hx hb dX0_begin_21 rfl ?_
    refine va_get (ci := 0) (v := .int (nI z)) (C := RX0) (T := TX0) (N := 5) hx hb hts hinX0 hown hK hP 0 rfl rfl 1 (by decide) hf15 (fun _ h9 => h9) rfl dX0_begin_22 ?_
    refine lv_iconst (v := nI 1) hx hb dX0_begin_25 (by decide) ?_
    refine adN (k := z + 1) hx hb rfl dX0_begin_26 ?_
    refine va_put (ci := 0) (v := .int (nI (z + 1))) (ty := .int) (C := RX0) (T := TX0) (N := 5) hx hb hts hinX0 tyX0 tyX0_ok nmX0 hown hK hP hD hS 0 rfl rfl 1 (by decide) hf15 (fun _ h9 => h9) rfl (by decide +kernel) rfl rfl (Nat.le_of_ble_eq_true rfl) dX0_begin_27 (fun H locs hP hD hS => ?_)
    have hP : va_P D vwCl ([(a, .inr (0, [.ref b, .int (nI (z + 1)), .int cd, .int lk, .int pl])), (b, wInt (cy 0) 16 (upd f z (nI x)))]) H := hP
    have hD : va_D A_ ([(a, .inr (0, [.ref b, .int (nI (z + 1)), .int cd, .int lk, .int pl])), (b, wInt (cy 0) 16 (upd f z (nI x)))]) := hD
    exact ret ((z + 1), (upd f z (nI x))) _ _ _ _ dX0_begin_30 (by first | (rw [tr1_y (by omega)]; done) | (rw [tr1_n (by omega)]; done)) hP hD hS
  · exact ret (z, f) _ _ _ _ dX0_begin_9 (by first | (rw [tr1_y (by omega)]; done) | (rw [tr1_n (by omega)]; done)) hP hD hS
set_option maxHeartbeats 4000000 in
set_option maxRecDepth 100000 in
theorem k_X0_begun (l : Launch) (D : va_G) (cy : Nat → ClassId) (sz : Nat) (a : Nat) (b : Nat) (z : Nat) (cd : Int32) (lk : Int32) (pl : Int32) (f : Nat → Int32) (i0 : Int32) (hz : z ≤ 16) : Met l yX0_begun wsX0_begun (rmD 1) (pPre D (TY cy) ([(a, .inr (0, [.ref b, .int (nI z), .int cd, .int lk, .int pl])), (b, wInt (cy 0) 16 f)]) sz [.ref a, .int i0]) (pI D (TY cy) ([(a, .inr (0, [.ref b, .int (nI z), .int cd, .int lk, .int pl])), (b, wInt (cy 0) 16 f)]) sz (fun _ : Unit => [(a, .inr (0, [.ref b, .int (nI z), .int cd, .int lk, .int pl])), (b, wInt (cy 0) 16 f)]) (fun (r_ : Int32) (_ : Unit) => r_ = (if nI 0 ≤ i0 ∧ i0 ≤ nI z - nI 1 then f (cl i0) else -1000000))) 0 0 (va_A ([(a, .inr (0, [.ref b, .int (nI z), .int cd, .int lk, .int pl])), (b, wInt (cy 0) 16 f)]) sz) := by
  refine ent_i (cc := cX0_begun) (maxL := 2) (by decide +kernel) rfl (Nat.le_of_ble_eq_true rfl) ?_
  intro p_ e_ s_ m_ args_ below_ meth_ c_ A_ Q_ ls B0 ret
  obtain ⟨CF, hA, hKN, hP, hD, hl⟩ := B0
  have hK := hKN.1
  obtain ⟨hx, hb, hml, hown, hts⟩ := id CF
  have hS : va_S A_ s_.heap s_.heap [] := va_S.rf
  have hl : lv_has ls 2 [(0, .ref a), (1, .int i0)] := hl
  have hf15 := hts (.fieldLink RX0 15 "DrawerCards$Asking" "length" "I") (by decide +kernel)
  have hinX0 := show ∀ w ∈ u_ws RX0 TX0 5, w ∈ wsX0_begun from by decide +kernel
  have hni28 := hts (.initialized RX11) (by decide +kernel)
  have hns28 := hts (.static yX11_within) (by decide +kernel)
  have hc32 := hts (.constant RX0 32 (-1000000)) (by decide +kernel)
  have hf11 := hts (.fieldLink RX0 11 "DrawerCards$Asking" "bodies" "[I") (by decide +kernel)
  refine lv_iload_n hx hb dX0_begun_0 rfl (lv_at hl 1 rfl) ?_
  refine lv_iconst (v := nI 0) hx hb dX0_begun_1 (by decide) ?_
  refine lv_aload_n hx hb dX0_begun_2 rfl (lv_at hl 0 rfl) ?_
  refine va_get (ci := 0) (v := .int (nI z)) (C := RX0) (T := TX0) (N := 5) hx hb hts hinX0 hown hK hP 0 rfl rfl 1 (by decide) hf15 (fun _ h9 => h9) rfl dX0_begun_3 ?_
  refine lv_iconst (v := nI 1) hx hb dX0_begun_6 (by decide) ?_
  refine lv_isub hx hb dX0_begun_7 ?_
  refine call_i (wr := [(a, .inr (0, [.ref b, .int (nI z), .int cd, .int lk, .int pl])), (b, wInt (cy 0) 16 f)]) (ws' := (fun _ : Unit => [(a, .inr (0, [.ref b, .int (nI z), .int cd, .int lk, .int pl])), (b, wInt (cy 0) 16 f)])) (va_runSN (As := [.int i0, .int (nI 0), .int (nI z - nI 1)]) (rest := []) CF (k_X11_within l D cy _ i0 (nI 0) (nI z - nI 1) ) ⟨va_cnB (own := "DrawerCards$Asking") (host := "DrawerCards") (index := 28) 3 hts gX0_begun_X11_within_n28 rfl rfl rfl (hKN.2.1 _ (by decide +kernel)) hni28 (by decide +kernel) ⟨Nat.le_of_ble_eq_true rfl, Nat.le_of_ble_eq_true rfl⟩, hns28, trivial⟩ (pre_S hKN hP hD [] rfl (by decide)) rfl rfl hl.1 rfl (lv_room (Nat.le_of_ble_eq_true rfl)) dX0_begun_8 ⟨Nat.le_of_ble_eq_true rfl, Nat.le_of_ble_eq_true rfl⟩) hS hA hP hD [] [0, 1] [0, 1] rfl rfl (by decide) (by decide) (fun _ => rfl) (by decide) (fun r2 u1 H locs hw3 hP hD hS => ?_)
  replace hw3 := hw3.symm; subst hw3
  refine ifeqB (tgt := 23) hx hb dX0_begun_11 (by decide) (fun c11 => ?_) (fun c11 => ?_)
  · replace c11 : ¬ ((nI 0) ≤ i0 ∧ i0 ≤ (nI z - nI 1)) := c11
    refine lv_ldc hx hb hown hc32 dX0_begun_23 ?_
    exact ret _ () _ _ _ _ dX0_begun_25 (by first | (rw [if_pos c11, show cl (nI i) = i from e_i]; done) | (rw [if_neg c11]; done)) hP hD hS
  · replace c11 : ((nI 0) ≤ i0 ∧ i0 ≤ (nI z - nI 1)) := c11
    obtain ⟨i, h_i, rfl⟩ := rng' (by omega) c11
    have e_i : (nI i).toNatClampNeg = i := nI_clamp (by omega)
    refine lv_aload_n hx hb dX0_begun_14 rfl (lv_at hl 0 rfl) ?_
    refine va_get (ci := 0) (v := .ref b) (C := RX0) (T := TX0) (N := 5) hx hb hts hinX0 hown hK hP 0 rfl rfl 0 (by decide) hf11 (fun _ h9 => h9) rfl dX0_begun_15 ?_
    refine lv_iload_n hx hb dX0_begun_18 rfl (lv_at hl 1 rfl) ?_
    refine ldN (f := f) hx hb hK hP 1 rfl (j := i) (by omega) (by decide) dX0_begun_19 ?_
    refine lv_goto (tgt := 25) hx hb dX0_begun_20 (by decide) ?_
    exact ret _ () _ _ _ _ dX0_begun_25 (by first | (rw [if_pos c11, show cl (nI i) = i from e_i]; done) | (rw [if_neg c11]; done)) hP hD hS
set_option maxHeartbeats 4000000 in
set_option maxRecDepth 100000 in
theorem k_X4_size (l : Launch) (D : va_G) (cy : Nat → ClassId) (sz : Nat) (g : Nat) (a : Nat) (b : Nat) (z : Nat) (cd : Int32) (lk : Int32) (pl : Int32) (f : Nat → Int32) (hz : z ≤ 16) : Met l yX4_size wsX4_size (rmD 1) (pPre D (TY cy) ([(a, .inr (0, [.ref b, .int (nI z), .int cd, .int lk, .int pl])), (b, wInt (cy 0) 16 f)]) sz [.ref g, .ref a]) (pI D (TY cy) ([(a, .inr (0, [.ref b, .int (nI z), .int cd, .int lk, .int pl])), (b, wInt (cy 0) 16 f)]) sz (fun u : Nat × (Nat → Int32) => [(a, .inr (0, [.ref b, .int (nI u.1), .int cd, .int lk, .int pl])), (b, wInt (cy 0) 16 u.2)]) (fun (r_ : Int32) (u : Nat × (Nat → Int32)) => r_ = lk ∧ u = ((trs (z, f) [10]).1, (trs (z, f) [10]).2))) 0 0 (va_A ([(a, .inr (0, [.ref b, .int (nI z), .int cd, .int lk, .int pl])), (b, wInt (cy 0) 16 f)]) sz) := by
  refine ent_i (cc := cX4_size) (maxL := 2) (by decide +kernel) rfl (Nat.le_of_ble_eq_true rfl) ?_
  intro p_ e_ s_ m_ args_ below_ meth_ c_ A_ Q_ ls B0 ret
  obtain ⟨CF, hA, hKN, hP, hD, hl⟩ := B0
  have hK := hKN.1
  obtain ⟨hx, hb, hml, hown, hts⟩ := id CF
  have hS : va_S A_ s_.heap s_.heap [] := va_S.rf
  have hl : lv_has ls 2 [(0, .ref g), (1, .ref a)] := hl
  have hf25 := va_Nw.use (A := args_) (w := .fieldLinkNest "DrawerCards$Kind" 25 "DrawerCards$Asking" "liked" "I" "DrawerCards") rfl (hKN.2.1 _ (by decide +kernel))
  have hinX0 := show ∀ w ∈ u_ws RX0 TX0 5, w ∈ wsX4_size from by decide +kernel
  refine lv_aload_n hx hb dX4_size_0 rfl (lv_at hl 1 rfl) ?_
  refine lv_bipush (v := nI 10) hx hb dX4_size_1 (by decide) ?_
  refine call_v (wr := []) (ws' := (fun u1 : Nat × (Nat → Int32) => [(a, .inr (0, [.ref b, .int (nI (u1.1)), .int cd, .int lk, .int pl])), (b, wInt (cy 0) 16 u1.2)])) (va_runV (As := [.int (nI 10)]) (rest := []) CF (k_X0_begin l D cy _ a b z cd lk pl f 10 (by first | exact hz | exact tr1_le hz _ | exact trs_le _ hz | exact tr1_le (tr1_le hz _) _ | exact trs_le _ (tr1_le hz _) | exact tr1_le (trs_le _ (tr1_le hz _)) _ | exact trs_le _ (tr1_le (tr1_le hz _) _) | exact trs_le _ (trs_le _ (tr1_le hz _)))) (cwV 1 hts gX4_size_X0_begin rfl rfl rfl (by decide +kernel) ⟨Nat.le_of_ble_eq_true rfl, Nat.le_of_ble_eq_true rfl⟩) (pre_V hKN hP hD [0, 1] rfl (by decide) 0 0 rfl rfl) rfl rfl hl.1 rfl (lv_room (Nat.le_of_ble_eq_true rfl)) dX4_size_3 ⟨Nat.le_of_ble_eq_true rfl, Nat.le_of_ble_eq_true rfl⟩) hS hA hP hD [0, 1] [] [0, 1] rfl rfl (by decide) (by decide) (fun _ => rfl) (by decide) (fun u1 H locs hw3 hP hD hS => ?_)
  replace hw3 := hw3.symm; subst hw3
  have hP : va_P D vwCl ([(a, .inr (0, [.ref b, .int (nI (((tr1 (z, f) 10).1))), .int cd, .int lk, .int pl])), (b, wInt (cy 0) 16 ((tr1 (z, f) 10).2))]) H := hP
  have hD : va_D A_ ([(a, .inr (0, [.ref b, .int (nI (((tr1 (z, f) 10).1))), .int cd, .int lk, .int pl])), (b, wInt (cy 0) 16 ((tr1 (z, f) 10).2))]) := hD
  refine lv_aload_n hx hb dX4_size_6 rfl (lv_at hl 1 rfl) ?_
  refine va_getN (ci := 0) (v := .int lk) (C := RX0) (T := TX0) (N := 5) hx hb hts hinX0 hown hK hP 0 rfl rfl 3 (by decide) hf25 (fun _ h9 => h9) rfl dX4_size_7 ?_
  exact ret _ (((tr1 (z, f) 10).1), ((tr1 (z, f) 10).2)) _ _ _ _ dX4_size_10 ⟨rfl, rfl⟩ hP hD hS
set_option maxHeartbeats 4000000 in
set_option maxRecDepth 100000 in
theorem k_X4_mark (l : Launch) (D : va_G) (cy : Nat → ClassId) (sz : Nat) (g : Nat) (a : Nat) (b : Nat) (z : Nat) (cd : Int32) (lk : Int32) (pl : Int32) (f : Nat → Int32) (hz : z ≤ 16) : Met l yX4_mark wsX4_mark (rmD 1) (pPre D (TY cy) ([(a, .inr (0, [.ref b, .int (nI z), .int cd, .int lk, .int pl])), (b, wInt (cy 0) 16 f)]) sz [.ref g, .ref a]) (pI D (TY cy) ([(a, .inr (0, [.ref b, .int (nI z), .int cd, .int lk, .int pl])), (b, wInt (cy 0) 16 f)]) sz (fun u : Nat × (Nat → Int32) => [(a, .inr (0, [.ref b, .int (nI u.1), .int cd, .int lk, .int pl])), (b, wInt (cy 0) 16 u.2)]) (fun (r_ : Int32) (u : Nat × (Nat → Int32)) => r_ = cd ∧ u = ((trs (z, f) [20]).1, (trs (z, f) [20]).2))) 0 0 (va_A ([(a, .inr (0, [.ref b, .int (nI z), .int cd, .int lk, .int pl])), (b, wInt (cy 0) 16 f)]) sz) := by
  refine ent_i (cc := cX4_mark) (maxL := 2) (by decide +kernel) rfl (Nat.le_of_ble_eq_true rfl) ?_
  intro p_ e_ s_ m_ args_ below_ meth_ c_ A_ Q_ ls B0 ret
  obtain ⟨CF, hA, hKN, hP, hD, hl⟩ := B0
  have hK := hKN.1
  obtain ⟨hx, hb, hml, hown, hts⟩ := id CF
  have hS : va_S A_ s_.heap s_.heap [] := va_S.rf
  have hl : lv_has ls 2 [(0, .ref g), (1, .ref a)] := hl
  have hf29 := va_Nw.use (A := args_) (w := .fieldLinkNest "DrawerCards$Kind" 29 "DrawerCards$Asking" "card" "I" "DrawerCards") rfl (hKN.2.1 _ (by decide +kernel))
  have hinX0 := show ∀ w ∈ u_ws RX0 TX0 5, w ∈ wsX4_mark from by decide +kernel
  refine lv_aload_n hx hb dX4_mark_0 rfl (lv_at hl 1 rfl) ?_
  refine lv_bipush (v := nI 20) hx hb dX4_mark_1 (by decide) ?_
  refine call_v (wr := []) (ws' := (fun u1 : Nat × (Nat → Int32) => [(a, .inr (0, [.ref b, .int (nI (u1.1)), .int cd, .int lk, .int pl])), (b, wInt (cy 0) 16 u1.2)])) (va_runV (As := [.int (nI 20)]) (rest := []) CF (k_X0_begin l D cy _ a b z cd lk pl f 20 (by first | exact hz | exact tr1_le hz _ | exact trs_le _ hz | exact tr1_le (tr1_le hz _) _ | exact trs_le _ (tr1_le hz _) | exact tr1_le (trs_le _ (tr1_le hz _)) _ | exact trs_le _ (tr1_le (tr1_le hz _) _) | exact trs_le _ (trs_le _ (tr1_le hz _)))) (cwV 1 hts gX4_mark_X0_begin rfl rfl rfl (by decide +kernel) ⟨Nat.le_of_ble_eq_true rfl, Nat.le_of_ble_eq_true rfl⟩) (pre_V hKN hP hD [0, 1] rfl (by decide) 0 0 rfl rfl) rfl rfl hl.1 rfl (lv_room (Nat.le_of_ble_eq_true rfl)) dX4_mark_3 ⟨Nat.le_of_ble_eq_true rfl, Nat.le_of_ble_eq_true rfl⟩) hS hA hP hD [0, 1] [] [0, 1] rfl rfl (by decide) (by decide) (fun _ => rfl) (by decide) (fun u1 H locs hw3 hP hD hS => ?_)
  replace hw3 := hw3.symm; subst hw3
  have hP : va_P D vwCl ([(a, .inr (0, [.ref b, .int (nI (((tr1 (z, f) 20).1))), .int cd, .int lk, .int pl])), (b, wInt (cy 0) 16 ((tr1 (z, f) 20).2))]) H := hP
  have hD : va_D A_ ([(a, .inr (0, [.ref b, .int (nI (((tr1 (z, f) 20).1))), .int cd, .int lk, .int pl])), (b, wInt (cy 0) 16 ((tr1 (z, f) 20).2))]) := hD
  refine lv_aload_n hx hb dX4_mark_6 rfl (lv_at hl 1 rfl) ?_
  refine va_getN (ci := 0) (v := .int cd) (C := RX0) (T := TX0) (N := 5) hx hb hts hinX0 hown hK hP 0 rfl rfl 2 (by decide) hf29 (fun _ h9 => h9) rfl dX4_mark_7 ?_
  exact ret _ (((tr1 (z, f) 20).1), ((tr1 (z, f) 20).2)) _ _ _ _ dX4_mark_10 ⟨rfl, rfl⟩ hP hD hS
set_option maxHeartbeats 4000000 in
set_option maxRecDepth 100000 in
theorem k_X3_markX3 (l : Launch) (D : va_G) (cy : Nat → ClassId) (sz : Nat) (g : Nat) (a : Nat) (b : Nat) (z : Nat) (cd : Int32) (lk : Int32) (pl : Int32) (f : Nat → Int32) (hz : z ≤ 16) : Met l yX3_mark wsX3_mark (rmD 2) (pPre D (TY cy) ([(g, .inr (3, [])), (a, .inr (0, [.ref b, .int (nI z), .int cd, .int lk, .int pl])), (b, wInt (cy 0) 16 f)]) sz [.ref g, .ref a]) (pI D (TY cy) ([(g, .inr (3, [])), (a, .inr (0, [.ref b, .int (nI z), .int cd, .int lk, .int pl])), (b, wInt (cy 0) 16 f)]) sz (fun u : Nat × (Nat → Int32) => [(g, .inr (3, [])), (a, .inr (0, [.ref b, .int (nI u.1), .int cd, .int lk, .int pl])), (b, wInt (cy 0) 16 u.2)]) (fun (r_ : Int32) (u : Nat × (Nat → Int32)) => r_ = (cd + pl) ∧ u = ((trs (z, f) [21, 20]).1, (trs (z, f) [21, 20]).2))) 0 0 (va_A ([(g, .inr (3, [])), (a, .inr (0, [.ref b, .int (nI z), .int cd, .int lk, .int pl])), (b, wInt (cy 0) 16 f)]) sz) := by
  refine ent_i (cc := cX3_mark) (maxL := 2) (by decide +kernel) rfl (Nat.le_of_ble_eq_true rfl) ?_
  intro p_ e_ s_ m_ args_ below_ meth_ c_ A_ Q_ ls B0 ret
  obtain ⟨CF, hA, hKN, hP, hD, hl⟩ := B0
  have hK := hKN.1
  obtain ⟨hx, hb, hml, hown, hts⟩ := id CF
  have hS : va_S A_ s_.heap s_.heap [] := va_S.rf
  have hl : lv_has ls 2 [(0, .ref g), (1, .ref a)] := hl
  have hf48 := va_Nw.use (A := args_) (w := .fieldLinkNest "DrawerCards$Free" 48 "DrawerCards$Asking" "place" "I" "DrawerCards") rfl (hKN.2.1 _ (by decide +kernel))
  have hinX0 := show ∀ w ∈ u_ws RX0 TX0 5, w ∈ wsX3_mark from by decide +kernel
  refine lv_aload_n hx hb dX3_mark_0 rfl (lv_at hl 1 rfl) ?_
  refine lv_bipush (v := nI 21) hx hb dX3_mark_1 (by decide) ?_
  refine call_v (wr := [(g, .inr (3, []))]) (ws' := (fun u1 : Nat × (Nat → Int32) => [(g, .inr (3, [])), (a, .inr (0, [.ref b, .int (nI (u1.1)), .int cd, .int lk, .int pl])), (b, wInt (cy 0) 16 u1.2)])) (va_runV (As := [.int (nI 21)]) (rest := []) CF (k_X0_begin l D cy _ a b z cd lk pl f 21 (by first | exact hz | exact tr1_le hz _ | exact trs_le _ hz | exact tr1_le (tr1_le hz _) _ | exact trs_le _ (tr1_le hz _) | exact tr1_le (trs_le _ (tr1_le hz _)) _ | exact trs_le _ (tr1_le (tr1_le hz _) _) | exact trs_le _ (trs_le _ (tr1_le hz _)))) (cwV 1 hts gX3_mark_X0_begin rfl rfl rfl (by decide +kernel) ⟨Nat.le_of_ble_eq_true rfl, Nat.le_of_ble_eq_true rfl⟩) (pre_V hKN hP hD [1, 2] rfl (by decide) 1 0 rfl rfl) rfl rfl hl.1 rfl (lv_room (Nat.le_of_ble_eq_true rfl)) dX3_mark_3 ⟨Nat.le_of_ble_eq_true rfl, Nat.le_of_ble_eq_true rfl⟩) hS hA hP hD [1, 2] [0] [0, 1, 2] rfl rfl (by decide) (by decide) (fun _ => rfl) (by decide) (fun u1 H locs hw3 hP hD hS => ?_)
  replace hw3 := hw3.symm; subst hw3
  have hP : va_P D vwCl ([(g, .inr (3, [])), (a, .inr (0, [.ref b, .int (nI (((tr1 (z, f) 21).1))), .int cd, .int lk, .int pl])), (b, wInt (cy 0) 16 ((tr1 (z, f) 21).2))]) H := hP
  have hD : va_D A_ ([(g, .inr (3, [])), (a, .inr (0, [.ref b, .int (nI (((tr1 (z, f) 21).1))), .int cd, .int lk, .int pl])), (b, wInt (cy 0) 16 ((tr1 (z, f) 21).2))]) := hD
  refine lv_aload_n hx hb dX3_mark_6 rfl (lv_at hl 0 rfl) ?_
  refine lv_aload_n hx hb dX3_mark_7 rfl (lv_at hl 1 rfl) ?_
  refine call_i (wr := [(g, .inr (3, []))]) (ws' := (fun u4 : Nat × (Nat → Int32) => [(g, .inr (3, [])), (a, .inr (0, [.ref b, .int (nI (u4.1)), .int cd, .int lk, .int pl])), (b, wInt (cy 0) 16 u4.2)])) (va_runSU (As := [.ref a]) (rest := []) (hK.1 3 _ rfl).2 CF (k_X4_mark l D cy _ g a b ((tr1 (z, f) 21).1) cd lk pl ((tr1 (z, f) 21).2) (by first | exact hz | exact tr1_le hz _ | exact trs_le _ hz | exact tr1_le (tr1_le hz _) _ | exact trs_le _ (tr1_le hz _) | exact tr1_le (trs_le _ (tr1_le hz _)) _ | exact trs_le _ (tr1_le (tr1_le hz _) _) | exact trs_le _ (trs_le _ (tr1_le hz _)))) (va_cwSU 1 hts gX3_mark_X4_mark_s47 rfl rfl rfl (by decide +kernel) ⟨Nat.le_of_ble_eq_true rfl, Nat.le_of_ble_eq_true rfl⟩) (pre_V hKN hP hD [1, 2] rfl (by decide) 0 3 rfl rfl) rfl rfl hl.1 rfl (lv_room (Nat.le_of_ble_eq_true rfl)) dX3_mark_8 ⟨Nat.le_of_ble_eq_true rfl, Nat.le_of_ble_eq_true rfl⟩) hS hA hP hD [1, 2] [0] [0, 1, 2] rfl rfl (by decide) (by decide) (fun _ => rfl) (by decide) (fun r5 u4 H locs hw6 hP hD hS => ?_)
  obtain ⟨hw6a, hw6b⟩ := hw6
  replace hw6a := hw6a.symm; subst hw6a
  replace hw6b := hw6b.symm; subst hw6b
  have hP : va_P D vwCl ([(g, .inr (3, [])), (a, .inr (0, [.ref b, .int (nI (((trs (((tr1 (z, f) 21).1), ((tr1 (z, f) 21).2)) [20]).1))), .int cd, .int lk, .int pl])), (b, wInt (cy 0) 16 ((trs (((tr1 (z, f) 21).1), ((tr1 (z, f) 21).2)) [20]).2))]) H := hP
  have hD : va_D A_ ([(g, .inr (3, [])), (a, .inr (0, [.ref b, .int (nI (((trs (((tr1 (z, f) 21).1), ((tr1 (z, f) 21).2)) [20]).1))), .int cd, .int lk, .int pl])), (b, wInt (cy 0) 16 ((trs (((tr1 (z, f) 21).1), ((tr1 (z, f) 21).2)) [20]).2))]) := hD
  refine lv_aload_n hx hb dX3_mark_11 rfl (lv_at hl 1 rfl) ?_
  refine va_getN (ci := 0) (v := .int pl) (C := RX0) (T := TX0) (N := 5) hx hb hts hinX0 hown hK hP 1 rfl rfl 4 (by decide) hf48 (fun _ h9 => h9) rfl dX3_mark_12 ?_
  refine lv_iadd hx hb dX3_mark_15 ?_
  exact ret _ (((trs (((tr1 (z, f) 21).1), ((tr1 (z, f) 21).2)) [20]).1), ((trs (((tr1 (z, f) 21).1), ((tr1 (z, f) 21).2)) [20]).2)) _ _ _ _ dX3_mark_16 ⟨rfl, rfl⟩ hP hD hS
set_option maxHeartbeats 4000000 in
set_option maxRecDepth 100000 in
theorem k_X3_markX5 (l : Launch) (D : va_G) (cy : Nat → ClassId) (sz : Nat) (g : Nat) (a : Nat) (b : Nat) (z : Nat) (cd : Int32) (lk : Int32) (pl : Int32) (f : Nat → Int32) (hz : z ≤ 16) : Met l yX3_mark wsX3_mark (rmD 2) (pPre D (TY cy) ([(g, .inr (4, [])), (a, .inr (0, [.ref b, .int (nI z), .int cd, .int lk, .int pl])), (b, wInt (cy 0) 16 f)]) sz [.ref g, .ref a]) (pI D (TY cy) ([(g, .inr (4, [])), (a, .inr (0, [.ref b, .int (nI z), .int cd, .int lk, .int pl])), (b, wInt (cy 0) 16 f)]) sz (fun u : Nat × (Nat → Int32) => [(g, .inr (4, [])), (a, .inr (0, [.ref b, .int (nI u.1), .int cd, .int lk, .int pl])), (b, wInt (cy 0) 16 u.2)]) (fun (r_ : Int32) (u : Nat × (Nat → Int32)) => r_ = (cd + pl) ∧ u = ((trs (z, f) [21, 20]).1, (trs (z, f) [21, 20]).2))) 0 0 (va_A ([(g, .inr (4, [])), (a, .inr (0, [.ref b, .int (nI z), .int cd, .int lk, .int pl])), (b, wInt (cy 0) 16 f)]) sz) := by
  refine ent_i (cc := cX3_mark) (maxL := 2) (by decide +kernel) rfl (Nat.le_of_ble_eq_true rfl) ?_
  intro p_ e_ s_ m_ args_ below_ meth_ c_ A_ Q_ ls B0 ret
  obtain ⟨CF, hA, hKN, hP, hD, hl⟩ := B0
  have hK := hKN.1
  obtain ⟨hx, hb, hml, hown, hts⟩ := id CF
  have hS : va_S A_ s_.heap s_.heap [] := va_S.rf
  have hl : lv_has ls 2 [(0, .ref g), (1, .ref a)] := hl
  have hf48 := va_Nw.use (A := args_) (w := .fieldLinkNest "DrawerCards$Free" 48 "DrawerCards$Asking" "place" "I" "DrawerCards") rfl (hKN.2.1 _ (by decide +kernel))
  have hinX0 := show ∀ w ∈ u_ws RX0 TX0 5, w ∈ wsX3_mark from by decide +kernel
  refine lv_aload_n hx hb dX3_mark_0 rfl (lv_at hl 1 rfl) ?_
  refine lv_bipush (v := nI 21) hx hb dX3_mark_1 (by decide) ?_
  refine call_v (wr := [(g, .inr (4, []))]) (ws' := (fun u1 : Nat × (Nat → Int32) => [(g, .inr (4, [])), (a, .inr (0, [.ref b, .int (nI (u1.1)), .int cd, .int lk, .int pl])), (b, wInt (cy 0) 16 u1.2)])) (va_runV (As := [.int (nI 21)]) (rest := []) CF (k_X0_begin l D cy _ a b z cd lk pl f 21 (by first | exact hz | exact tr1_le hz _ | exact trs_le _ hz | exact tr1_le (tr1_le hz _) _ | exact trs_le _ (tr1_le hz _) | exact tr1_le (trs_le _ (tr1_le hz _)) _ | exact trs_le _ (tr1_le (tr1_le hz _) _) | exact trs_le _ (trs_le _ (tr1_le hz _)))) (cwV 1 hts gX3_mark_X0_begin rfl rfl rfl (by decide +kernel) ⟨Nat.le_of_ble_eq_true rfl, Nat.le_of_ble_eq_true rfl⟩) (pre_V hKN hP hD [1, 2] rfl (by decide) 1 0 rfl rfl) rfl rfl hl.1 rfl (lv_room (Nat.le_of_ble_eq_true rfl)) dX3_mark_3 ⟨Nat.le_of_ble_eq_true rfl, Nat.le_of_ble_eq_true rfl⟩) hS hA hP hD [1, 2] [0] [0, 1, 2] rfl rfl (by decide) (by decide) (fun _ => rfl) (by decide) (fun u1 H locs hw3 hP hD hS => ?_)
  replace hw3 := hw3.symm; subst hw3
  have hP : va_P D vwCl ([(g, .inr (4, [])), (a, .inr (0, [.ref b, .int (nI (((tr1 (z, f) 21).1))), .int cd, .int lk, .int pl])), (b, wInt (cy 0) 16 ((tr1 (z, f) 21).2))]) H := hP
  have hD : va_D A_ ([(g, .inr (4, [])), (a, .inr (0, [.ref b, .int (nI (((tr1 (z, f) 21).1))), .int cd, .int lk, .int pl])), (b, wInt (cy 0) 16 ((tr1 (z, f) 21).2))]) := hD
  refine lv_aload_n hx hb dX3_mark_6 rfl (lv_at hl 0 rfl) ?_
  refine lv_aload_n hx hb dX3_mark_7 rfl (lv_at hl 1 rfl) ?_
  refine call_i (wr := [(g, .inr (4, []))]) (ws' := (fun u4 : Nat × (Nat → Int32) => [(g, .inr (4, [])), (a, .inr (0, [.ref b, .int (nI (u4.1)), .int cd, .int lk, .int pl])), (b, wInt (cy 0) 16 u4.2)])) (va_runSU (As := [.ref a]) (rest := []) (hK.1 4 _ rfl).2 CF (k_X4_mark l D cy _ g a b ((tr1 (z, f) 21).1) cd lk pl ((tr1 (z, f) 21).2) (by first | exact hz | exact tr1_le hz _ | exact trs_le _ hz | exact tr1_le (tr1_le hz _) _ | exact trs_le _ (tr1_le hz _) | exact tr1_le (trs_le _ (tr1_le hz _)) _ | exact trs_le _ (tr1_le (tr1_le hz _) _) | exact trs_le _ (trs_le _ (tr1_le hz _)))) (va_cwSU 1 hts gX3_mark_X4_mark_s47 rfl rfl rfl (by decide +kernel) ⟨Nat.le_of_ble_eq_true rfl, Nat.le_of_ble_eq_true rfl⟩) (pre_V hKN hP hD [1, 2] rfl (by decide) 0 4 rfl rfl) rfl rfl hl.1 rfl (lv_room (Nat.le_of_ble_eq_true rfl)) dX3_mark_8 ⟨Nat.le_of_ble_eq_true rfl, Nat.le_of_ble_eq_true rfl⟩) hS hA hP hD [1, 2] [0] [0, 1, 2] rfl rfl (by decide) (by decide) (fun _ => rfl) (by decide) (fun r5 u4 H locs hw6 hP hD hS => ?_)
  obtain ⟨hw6a, hw6b⟩ := hw6
  replace hw6a := hw6a.symm; subst hw6a
  replace hw6b := hw6b.symm; subst hw6b
  have hP : va_P D vwCl ([(g, .inr (4, [])), (a, .inr (0, [.ref b, .int (nI (((trs (((tr1 (z, f) 21).1), ((tr1 (z, f) 21).2)) [20]).1))), .int cd, .int lk, .int pl])), (b, wInt (cy 0) 16 ((trs (((tr1 (z, f) 21).1), ((tr1 (z, f) 21).2)) [20]).2))]) H := hP
  have hD : va_D A_ ([(g, .inr (4, [])), (a, .inr (0, [.ref b, .int (nI (((trs (((tr1 (z, f) 21).1), ((tr1 (z, f) 21).2)) [20]).1))), .int cd, .int lk, .int pl])), (b, wInt (cy 0) 16 ((trs (((tr1 (z, f) 21).1), ((tr1 (z, f) 21).2)) [20]).2))]) := hD
  refine lv_aload_n hx hb dX3_mark_11 rfl (lv_at hl 1 rfl) ?_
  refine va_getN (ci := 0) (v := .int pl) (C := RX0) (T := TX0) (N := 5) hx hb hts hinX0 hown hK hP 1 rfl rfl 4 (by decide) hf48 (fun _ h9 => h9) rfl dX3_mark_12 ?_
  refine lv_iadd hx hb dX3_mark_15 ?_
  exact ret _ (((trs (((tr1 (z, f) 21).1), ((tr1 (z, f) 21).2)) [20]).1), ((trs (((tr1 (z, f) 21).1), ((tr1 (z, f) 21).2)) [20]).2)) _ _ _ _ dX3_mark_16 ⟨rfl, rfl⟩ hP hD hS
set_option maxHeartbeats 4000000 in
set_option maxRecDepth 100000 in
theorem k_X3_markX10 (l : Launch) (D : va_G) (cy : Nat → ClassId) (sz : Nat) (g : Nat) (a : Nat) (b : Nat) (z : Nat) (cd : Int32) (lk : Int32) (pl : Int32) (f : Nat → Int32) (hz : z ≤ 16) : Met l yX3_mark wsX3_mark (rmD 2) (pPre D (TY cy) ([(g, .inr (9, [])), (a, .inr (0, [.ref b, .int (nI z), .int cd, .int lk, .int pl])), (b, wInt (cy 0) 16 f)]) sz [.ref g, .ref a]) (pI D (TY cy) ([(g, .inr (9, [])), (a, .inr (0, [.ref b, .int (nI z), .int cd, .int lk, .int pl])), (b, wInt (cy 0) 16 f)]) sz (fun u : Nat × (Nat → Int32) => [(g, .inr (9, [])), (a, .inr (0, [.ref b, .int (nI u.1), .int cd, .int lk, .int pl])), (b, wInt (cy 0) 16 u.2)]) (fun (r_ : Int32) (u : Nat × (Nat → Int32)) => r_ = (cd + pl) ∧ u = ((trs (z, f) [21, 20]).1, (trs (z, f) [21, 20]).2))) 0 0 (va_A ([(g, .inr (9, [])), (a, .inr (0, [.ref b, .int (nI z), .int cd, .int lk, .int pl])), (b, wInt (cy 0) 16 f)]) sz) := by
  refine ent_i (cc := cX3_mark) (maxL := 2) (by decide +kernel) rfl (Nat.le_of_ble_eq_true rfl) ?_
  intro p_ e_ s_ m_ args_ below_ meth_ c_ A_ Q_ ls B0 ret
  obtain ⟨CF, hA, hKN, hP, hD, hl⟩ := B0
  have hK := hKN.1
  obtain ⟨hx, hb, hml, hown, hts⟩ := id CF
  have hS : va_S A_ s_.heap s_.heap [] := va_S.rf
  have hl : lv_has ls 2 [(0, .ref g), (1, .ref a)] := hl
  have hf48 := va_Nw.use (A := args_) (w := .fieldLinkNest "DrawerCards$Free" 48 "DrawerCards$Asking" "place" "I" "DrawerCards") rfl (hKN.2.1 _ (by decide +kernel))
  have hinX0 := show ∀ w ∈ u_ws RX0 TX0 5, w ∈ wsX3_mark from by decide +kernel
  refine lv_aload_n hx hb dX3_mark_0 rfl (lv_at hl 1 rfl) ?_
  refine lv_bipush (v := nI 21) hx hb dX3_mark_1 (by decide) ?_
  refine call_v (wr := [(g, .inr (9, []))]) (ws' := (fun u1 : Nat × (Nat → Int32) => [(g, .inr (9, [])), (a, .inr (0, [.ref b, .int (nI (u1.1)), .int cd, .int lk, .int pl])), (b, wInt (cy 0) 16 u1.2)])) (va_runV (As := [.int (nI 21)]) (rest := []) CF (k_X0_begin l D cy _ a b z cd lk pl f 21 (by first | exact hz | exact tr1_le hz _ | exact trs_le _ hz | exact tr1_le (tr1_le hz _) _ | exact trs_le _ (tr1_le hz _) | exact tr1_le (trs_le _ (tr1_le hz _)) _ | exact trs_le _ (tr1_le (tr1_le hz _) _) | exact trs_le _ (trs_le _ (tr1_le hz _)))) (cwV 1 hts gX3_mark_X0_begin rfl rfl rfl (by decide +kernel) ⟨Nat.le_of_ble_eq_true rfl, Nat.le_of_ble_eq_true rfl⟩) (pre_V hKN hP hD [1, 2] rfl (by decide) 1 0 rfl rfl) rfl rfl hl.1 rfl (lv_room (Nat.le_of_ble_eq_true rfl)) dX3_mark_3 ⟨Nat.le_of_ble_eq_true rfl, Nat.le_of_ble_eq_true rfl⟩) hS hA hP hD [1, 2] [0] [0, 1, 2] rfl rfl (by decide) (by decide) (fun _ => rfl) (by decide) (fun u1 H locs hw3 hP hD hS => ?_)
  replace hw3 := hw3.symm; subst hw3
  have hP : va_P D vwCl ([(g, .inr (9, [])), (a, .inr (0, [.ref b, .int (nI (((tr1 (z, f) 21).1))), .int cd, .int lk, .int pl])), (b, wInt (cy 0) 16 ((tr1 (z, f) 21).2))]) H := hP
  have hD : va_D A_ ([(g, .inr (9, [])), (a, .inr (0, [.ref b, .int (nI (((tr1 (z, f) 21).1))), .int cd, .int lk, .int pl])), (b, wInt (cy 0) 16 ((tr1 (z, f) 21).2))]) := hD
  refine lv_aload_n hx hb dX3_mark_6 rfl (lv_at hl 0 rfl) ?_
  refine lv_aload_n hx hb dX3_mark_7 rfl (lv_at hl 1 rfl) ?_
  refine call_i (wr := [(g, .inr (9, []))]) (ws' := (fun u4 : Nat × (Nat → Int32) => [(g, .inr (9, [])), (a, .inr (0, [.ref b, .int (nI (u4.1)), .int cd, .int lk, .int pl])), (b, wInt (cy 0) 16 u4.2)])) (va_runSU (As := [.ref a]) (rest := []) (hK.1 9 _ rfl).2 CF (k_X4_mark l D cy _ g a b ((tr1 (z, f) 21).1) cd lk pl ((tr1 (z, f) 21).2) (by first | exact hz | exact tr1_le hz _ | exact trs_le _ hz | exact tr1_le (tr1_le hz _) _ | exact trs_le _ (tr1_le hz _) | exact tr1_le (trs_le _ (tr1_le hz _)) _ | exact trs_le _ (tr1_le (tr1_le hz _) _) | exact trs_le _ (trs_le _ (tr1_le hz _)))) (va_cwSU 1 hts gX3_mark_X4_mark_s47 rfl rfl rfl (by decide +kernel) ⟨Nat.le_of_ble_eq_true rfl, Nat.le_of_ble_eq_true rfl⟩) (pre_V hKN hP hD [1, 2] rfl (by decide) 0 9 rfl rfl) rfl rfl hl.1 rfl (lv_room (Nat.le_of_ble_eq_true rfl)) dX3_mark_8 ⟨Nat.le_of_ble_eq_true rfl, Nat.le_of_ble_eq_true rfl⟩) hS hA hP hD [1, 2] [0] [0, 1, 2] rfl rfl (by decide) (by decide) (fun _ => rfl) (by decide) (fun r5 u4 H locs hw6 hP hD hS => ?_)
  obtain ⟨hw6a, hw6b⟩ := hw6
  replace hw6a := hw6a.symm; subst hw6a
  replace hw6b := hw6b.symm; subst hw6b
  have hP : va_P D vwCl ([(g, .inr (9, [])), (a, .inr (0, [.ref b, .int (nI (((trs (((tr1 (z, f) 21).1), ((tr1 (z, f) 21).2)) [20]).1))), .int cd, .int lk, .int pl])), (b, wInt (cy 0) 16 ((trs (((tr1 (z, f) 21).1), ((tr1 (z, f) 21).2)) [20]).2))]) H := hP
  have hD : va_D A_ ([(g, .inr (9, [])), (a, .inr (0, [.ref b, .int (nI (((trs (((tr1 (z, f) 21).1), ((tr1 (z, f) 21).2)) [20]).1))), .int cd, .int lk, .int pl])), (b, wInt (cy 0) 16 ((trs (((tr1 (z, f) 21).1), ((tr1 (z, f) 21).2)) [20]).2))]) := hD
  refine lv_aload_n hx hb dX3_mark_11 rfl (lv_at hl 1 rfl) ?_
  refine va_getN (ci := 0) (v := .int pl) (C := RX0) (T := TX0) (N := 5) hx hb hts hinX0 hown hK hP 1 rfl rfl 4 (by decide) hf48 (fun _ h9 => h9) rfl dX3_mark_12 ?_
  refine lv_iadd hx hb dX3_mark_15 ?_
  exact ret _ (((trs (((tr1 (z, f) 21).1), ((tr1 (z, f) 21).2)) [20]).1), ((trs (((tr1 (z, f) 21).1), ((tr1 (z, f) 21).2)) [20]).2)) _ _ _ _ dX3_mark_16 ⟨rfl, rfl⟩ hP hD hS
set_option maxHeartbeats 4000000 in
set_option maxRecDepth 100000 in
theorem k_X5_markX5 (l : Launch) (D : va_G) (cy : Nat → ClassId) (sz : Nat) (g : Nat) (a : Nat) (b : Nat) (z : Nat) (cd : Int32) (lk : Int32) (pl : Int32) (f : Nat → Int32) (hz : z ≤ 16) : Met l yX5_mark wsX5_mark (rmD 3) (pPre D (TY cy) ([(g, .inr (4, [])), (a, .inr (0, [.ref b, .int (nI z), .int cd, .int lk, .int pl])), (b, wInt (cy 0) 16 f)]) sz [.ref g, .ref a]) (pI D (TY cy) ([(g, .inr (4, [])), (a, .inr (0, [.ref b, .int (nI z), .int cd, .int lk, .int pl])), (b, wInt (cy 0) 16 f)]) sz (fun u : Nat × (Nat → Int32) => [(g, .inr (4, [])), (a, .inr (0, [.ref b, .int (nI u.1), .int cd, .int lk, .int pl])), (b, wInt (cy 0) 16 u.2)]) (fun (r_ : Int32) (u : Nat × (Nat → Int32)) => r_ = (nI 2 * (cd + pl)) ∧ u = ((trs (z, f) [24, 21, 20]).1, (trs (z, f) [24, 21, 20]).2))) 0 0 (va_A ([(g, .inr (4, [])), (a, .inr (0, [.ref b, .int (nI z), .int cd, .int lk, .int pl])), (b, wInt (cy 0) 16 f)]) sz) := by
  refine ent_i (cc := cX5_mark) (maxL := 2) (by decide +kernel) rfl (Nat.le_of_ble_eq_true rfl) ?_
  intro p_ e_ s_ m_ args_ below_ meth_ c_ A_ Q_ ls B0 ret
  obtain ⟨CF, hA, hKN, hP, hD, hl⟩ := B0
  have hK := hKN.1
  obtain ⟨hx, hb, hml, hown, hts⟩ := id CF
  have hS : va_S A_ s_.heap s_.heap [] := va_S.rf
  have hl : lv_has ls 2 [(0, .ref g), (1, .ref a)] := hl
  refine lv_aload_n hx hb dX5_mark_0 rfl (lv_at hl 1 rfl) ?_
  refine lv_bipush (v := nI 24) hx hb dX5_mark_1 (by decide) ?_
  refine call_v (wr := [(g, .inr (4, []))]) (ws' := (fun u1 : Nat × (Nat → Int32) => [(g, .inr (4, [])), (a, .inr (0, [.ref b, .int (nI (u1.1)), .int cd, .int lk, .int pl])), (b, wInt (cy 0) 16 u1.2)])) (va_runV (As := [.int (nI 24)]) (rest := []) CF (k_X0_begin l D cy _ a b z cd lk pl f 24 (by first | exact hz | exact tr1_le hz _ | exact trs_le _ hz | exact tr1_le (tr1_le hz _) _ | exact trs_le _ (tr1_le hz _) | exact tr1_le (trs_le _ (tr1_le hz _)) _ | exact trs_le _ (tr1_le (tr1_le hz _) _) | exact trs_le _ (trs_le _ (tr1_le hz _)))) (cwV 1 hts gX5_mark_X0_begin rfl rfl rfl (by decide +kernel) ⟨Nat.le_of_ble_eq_true rfl, Nat.le_of_ble_eq_true rfl⟩) (pre_V hKN hP hD [1, 2] rfl (by decide) 1 0 rfl rfl) rfl rfl hl.1 rfl (lv_room (Nat.le_of_ble_eq_true rfl)) dX5_mark_3 ⟨Nat.le_of_ble_eq_true rfl, Nat.le_of_ble_eq_true rfl⟩) hS hA hP hD [1, 2] [0] [0, 1, 2] rfl rfl (by decide) (by decide) (fun _ => rfl) (by decide) (fun u1 H locs hw3 hP hD hS => ?_)
  replace hw3 := hw3.symm; subst hw3
  have hP : va_P D vwCl ([(g, .inr (4, [])), (a, .inr (0, [.ref b, .int (nI (((tr1 (z, f) 24).1))), .int cd, .int lk, .int pl])), (b, wInt (cy 0) 16 ((tr1 (z, f) 24).2))]) H := hP
  have hD : va_D A_ ([(g, .inr (4, [])), (a, .inr (0, [.ref b, .int (nI (((tr1 (z, f) 24).1))), .int cd, .int lk, .int pl])), (b, wInt (cy 0) 16 ((tr1 (z, f) 24).2))]) := hD
  refine lv_iconst (v := nI 2) hx hb dX5_mark_6 (by decide) ?_
  refine lv_aload_n hx hb dX5_mark_7 rfl (lv_at hl 0 rfl) ?_
  refine lv_aload_n hx hb dX5_mark_8 rfl (lv_at hl 1 rfl) ?_
  refine call_i (wr := []) (ws' := (fun u4 : Nat × (Nat → Int32) => [(g, .inr (4, [])), (a, .inr (0, [.ref b, .int (nI (u4.1)), .int cd, .int lk, .int pl])), (b, wInt (cy 0) 16 u4.2)])) (va_runSU (As := [.ref a]) (rest := [.int (nI 2)]) (hK.1 4 _ rfl).2 CF (k_X3_markX5 l D cy _ g a b ((tr1 (z, f) 24).1) cd lk pl ((tr1 (z, f) 24).2) (by first | exact hz | exact tr1_le hz _ | exact trs_le _ hz | exact tr1_le (tr1_le hz _) _ | exact trs_le _ (tr1_le hz _) | exact tr1_le (trs_le _ (tr1_le hz _)) _ | exact trs_le _ (tr1_le (tr1_le hz _) _) | exact trs_le _ (trs_le _ (tr1_le hz _)))) (va_cwSU 1 hts gX5_mark_X3_mark_s17 rfl rfl rfl (by decide +kernel) ⟨Nat.le_of_ble_eq_true rfl, Nat.le_of_ble_eq_true rfl⟩) (pre_V hKN hP hD [0, 1, 2] rfl (by decide) 0 4 rfl rfl) rfl rfl hl.1 rfl (lv_room (Nat.le_of_ble_eq_true rfl)) dX5_mark_9 ⟨Nat.le_of_ble_eq_true rfl, Nat.le_of_ble_eq_true rfl⟩) hS hA hP hD [0, 1, 2] [] [0, 1, 2] rfl rfl (by decide) (by decide) (fun _ => rfl) (by decide) (fun r5 u4 H locs hw6 hP hD hS => ?_)
  obtain ⟨hw6a, hw6b⟩ := hw6
  replace hw6a := hw6a.symm; subst hw6a
  replace hw6b := hw6b.symm; subst hw6b
  have hP : va_P D vwCl ([(g, .inr (4, [])), (a, .inr (0, [.ref b, .int (nI (((trs (((tr1 (z, f) 24).1), ((tr1 (z, f) 24).2)) [21, 20]).1))), .int cd, .int lk, .int pl])), (b, wInt (cy 0) 16 ((trs (((tr1 (z, f) 24).1), ((tr1 (z, f) 24).2)) [21, 20]).2))]) H := hP
  have hD : va_D A_ ([(g, .inr (4, [])), (a, .inr (0, [.ref b, .int (nI (((trs (((tr1 (z, f) 24).1), ((tr1 (z, f) 24).2)) [21, 20]).1))), .int cd, .int lk, .int pl])), (b, wInt (cy 0) 16 ((trs (((tr1 (z, f) 24).1), ((tr1 (z, f) 24).2)) [21, 20]).2))]) := hD
  refine lv_imul hx hb dX5_mark_12 ?_
  exact ret _ (((trs (((tr1 (z, f) 24).1), ((tr1 (z, f) 24).2)) [21, 20]).1), ((trs (((tr1 (z, f) 24).1), ((tr1 (z, f) 24).2)) [21, 20]).2)) _ _ _ _ dX5_mark_13 ⟨rfl, rfl⟩ hP hD hS
set_option maxHeartbeats 4000000 in
set_option maxRecDepth 100000 in
theorem k_X10_markX10 (l : Launch) (D : va_G) (cy : Nat → ClassId) (sz : Nat) (g : Nat) (a : Nat) (b : Nat) (z : Nat) (cd : Int32) (lk : Int32) (pl : Int32) (f : Nat → Int32) (hz : z ≤ 16) : Met l yX10_mark wsX10_mark (rmD 3) (pPre D (TY cy) ([(g, .inr (9, [])), (a, .inr (0, [.ref b, .int (nI z), .int cd, .int lk, .int pl])), (b, wInt (cy 0) 16 f)]) sz [.ref g, .ref a]) (pI D (TY cy) ([(g, .inr (9, [])), (a, .inr (0, [.ref b, .int (nI z), .int cd, .int lk, .int pl])), (b, wInt (cy 0) 16 f)]) sz (fun u : Nat × (Nat → Int32) => [(g, .inr (9, [])), (a, .inr (0, [.ref b, .int (nI u.1), .int cd, .int lk, .int pl])), (b, wInt (cy 0) 16 u.2)]) (fun (r_ : Int32) (u : Nat × (Nat → Int32)) => r_ = ((cd + pl) - nI 1000) ∧ u = ((trs (z, f) [22, 21, 20]).1, (trs (z, f) [22, 21, 20]).2))) 0 0 (va_A ([(g, .inr (9, [])), (a, .inr (0, [.ref b, .int (nI z), .int cd, .int lk, .int pl])), (b, wInt (cy 0) 16 f)]) sz) := by
  refine ent_i (cc := cX10_mark) (maxL := 2) (by decide +kernel) rfl (Nat.le_of_ble_eq_true rfl) ?_
  intro p_ e_ s_ m_ args_ below_ meth_ c_ A_ Q_ ls B0 ret
  obtain ⟨CF, hA, hKN, hP, hD, hl⟩ := B0
  have hK := hKN.1
  obtain ⟨hx, hb, hml, hown, hts⟩ := id CF
  have hS : va_S A_ s_.heap s_.heap [] := va_S.rf
  have hl : lv_has ls 2 [(0, .ref g), (1, .ref a)] := hl
  refine lv_aload_n hx hb dX10_mark_0 rfl (lv_at hl 1 rfl) ?_
  refine lv_bipush (v := nI 22) hx hb dX10_mark_1 (by decide) ?_
  refine call_v (wr := [(g, .inr (9, []))]) (ws' := (fun u1 : Nat × (Nat → Int32) => [(g, .inr (9, [])), (a, .inr (0, [.ref b, .int (nI (u1.1)), .int cd, .int lk, .int pl])), (b, wInt (cy 0) 16 u1.2)])) (va_runV (As := [.int (nI 22)]) (rest := []) CF (k_X0_begin l D cy _ a b z cd lk pl f 22 (by first | exact hz | exact tr1_le hz _ | exact trs_le _ hz | exact tr1_le (tr1_le hz _) _ | exact trs_le _ (tr1_le hz _) | exact tr1_le (trs_le _ (tr1_le hz _)) _ | exact trs_le _ (tr1_le (tr1_le hz _) _) | exact trs_le _ (trs_le _ (tr1_le hz _)))) (cwV 1 hts gX10_mark_X0_begin rfl rfl rfl (by decide +kernel) ⟨Nat.le_of_ble_eq_true rfl, Nat.le_of_ble_eq_true rfl⟩) (pre_V hKN hP hD [1, 2] rfl (by decide) 1 0 rfl rfl) rfl rfl hl.1 rfl (lv_room (Nat.le_of_ble_eq_true rfl)) dX10_mark_3 ⟨Nat.le_of_ble_eq_true rfl, Nat.le_of_ble_eq_true rfl⟩) hS hA hP hD [1, 2] [0] [0, 1, 2] rfl rfl (by decide) (by decide) (fun _ => rfl) (by decide) (fun u1 H locs hw3 hP hD hS => ?_)
  replace hw3 := hw3.symm; subst hw3
  have hP : va_P D vwCl ([(g, .inr (9, [])), (a, .inr (0, [.ref b, .int (nI (((tr1 (z, f) 22).1))), .int cd, .int lk, .int pl])), (b, wInt (cy 0) 16 ((tr1 (z, f) 22).2))]) H := hP
  have hD : va_D A_ ([(g, .inr (9, [])), (a, .inr (0, [.ref b, .int (nI (((tr1 (z, f) 22).1))), .int cd, .int lk, .int pl])), (b, wInt (cy 0) 16 ((tr1 (z, f) 22).2))]) := hD
  refine lv_aload_n hx hb dX10_mark_6 rfl (lv_at hl 0 rfl) ?_
  refine lv_aload_n hx hb dX10_mark_7 rfl (lv_at hl 1 rfl) ?_
  refine call_i (wr := []) (ws' := (fun u4 : Nat × (Nat → Int32) => [(g, .inr (9, [])), (a, .inr (0, [.ref b, .int (nI (u4.1)), .int cd, .int lk, .int pl])), (b, wInt (cy 0) 16 u4.2)])) (va_runSU (As := [.ref a]) (rest := []) (hK.1 9 _ rfl).2 CF (k_X3_markX10 l D cy _ g a b ((tr1 (z, f) 22).1) cd lk pl ((tr1 (z, f) 22).2) (by first | exact hz | exact tr1_le hz _ | exact trs_le _ hz | exact tr1_le (tr1_le hz _) _ | exact trs_le _ (tr1_le hz _) | exact tr1_le (trs_le _ (tr1_le hz _)) _ | exact trs_le _ (tr1_le (tr1_le hz _) _) | exact trs_le _ (trs_le _ (tr1_le hz _)))) (va_cwSU 1 hts gX10_mark_X3_mark_s27 rfl rfl rfl (by decide +kernel) ⟨Nat.le_of_ble_eq_true rfl, Nat.le_of_ble_eq_true rfl⟩) (pre_V hKN hP hD [0, 1, 2] rfl (by decide) 0 9 rfl rfl) rfl rfl hl.1 rfl (lv_room (Nat.le_of_ble_eq_true rfl)) dX10_mark_8 ⟨Nat.le_of_ble_eq_true rfl, Nat.le_of_ble_eq_true rfl⟩) hS hA hP hD [0, 1, 2] [] [0, 1, 2] rfl rfl (by decide) (by decide) (fun _ => rfl) (by decide) (fun r5 u4 H locs hw6 hP hD hS => ?_)
  obtain ⟨hw6a, hw6b⟩ := hw6
  replace hw6a := hw6a.symm; subst hw6a
  replace hw6b := hw6b.symm; subst hw6b
  have hP : va_P D vwCl ([(g, .inr (9, [])), (a, .inr (0, [.ref b, .int (nI (((trs (((tr1 (z, f) 22).1), ((tr1 (z, f) 22).2)) [21, 20]).1))), .int cd, .int lk, .int pl])), (b, wInt (cy 0) 16 ((trs (((tr1 (z, f) 22).1), ((tr1 (z, f) 22).2)) [21, 20]).2))]) H := hP
  have hD : va_D A_ ([(g, .inr (9, [])), (a, .inr (0, [.ref b, .int (nI (((trs (((tr1 (z, f) 22).1), ((tr1 (z, f) 22).2)) [21, 20]).1))), .int cd, .int lk, .int pl])), (b, wInt (cy 0) 16 ((trs (((tr1 (z, f) 22).1), ((tr1 (z, f) 22).2)) [21, 20]).2))]) := hD
  refine lv_sipush (v := nI 1000) hx hb dX10_mark_11 (by decide) ?_
  refine lv_isub hx hb dX10_mark_14 ?_
  exact ret _ (((trs (((tr1 (z, f) 22).1), ((tr1 (z, f) 22).2)) [21, 20]).1), ((trs (((tr1 (z, f) 22).1), ((tr1 (z, f) 22).2)) [21, 20]).2)) _ _ _ _ dX10_mark_15 ⟨rfl, rfl⟩ hP hD hS
set_option maxHeartbeats 4000000 in
set_option maxRecDepth 100000 in
theorem k_X3_sizeX3 (l : Launch) (D : va_G) (cy : Nat → ClassId) (sz : Nat) (g : Nat) (a : Nat) (b : Nat) (z : Nat) (cd : Int32) (lk : Int32) (pl : Int32) (f : Nat → Int32) (hz : z ≤ 16) : Met l yX3_size wsX3_size (rmD 4) (pPre D (TY cy) ([(g, .inr (3, [])), (a, .inr (0, [.ref b, .int (nI z), .int cd, .int lk, .int pl])), (b, wInt (cy 0) 16 f)]) sz [.ref g, .ref a]) (pI D (TY cy) ([(g, .inr (3, [])), (a, .inr (0, [.ref b, .int (nI z), .int cd, .int lk, .int pl])), (b, wInt (cy 0) 16 f)]) sz (fun u : Nat × (Nat → Int32) => [(g, .inr (3, [])), (a, .inr (0, [.ref b, .int (nI u.1), .int cd, .int lk, .int pl])), (b, wInt (cy 0) 16 u.2)]) (fun (r_ : Int32) (u : Nat × (Nat → Int32)) => r_ = (lk + (cd + pl)) ∧ u = ((trs (z, f) [11, 10, 21, 20]).1, (trs (z, f) [11, 10, 21, 20]).2))) 0 0 (va_A ([(g, .inr (3, [])), (a, .inr (0, [.ref b, .int (nI z), .int cd, .int lk, .int pl])), (b, wInt (cy 0) 16 f)]) sz) := by
  refine ent_i (cc := cX3_size) (maxL := 2) (by decide +kernel) rfl (Nat.le_of_ble_eq_true rfl) ?_
  intro p_ e_ s_ m_ args_ below_ meth_ c_ A_ Q_ ls B0 ret
  obtain ⟨CF, hA, hKN, hP, hD, hl⟩ := B0
  have hK := hKN.1
  obtain ⟨hx, hb, hml, hown, hts⟩ := id CF
  have hS : va_S A_ s_.heap s_.heap [] := va_S.rf
  have hl : lv_has ls 2 [(0, .ref g), (1, .ref a)] := hl
  refine lv_aload_n hx hb dX3_size_0 rfl (lv_at hl 1 rfl) ?_
  refine lv_bipush (v := nI 11) hx hb dX3_size_1 (by decide) ?_
  refine call_v (wr := [(g, .inr (3, []))]) (ws' := (fun u1 : Nat × (Nat → Int32) => [(g, .inr (3, [])), (a, .inr (0, [.ref b, .int (nI (u1.1)), .int cd, .int lk, .int pl])), (b, wInt (cy 0) 16 u1.2)])) (va_runV (As := [.int (nI 11)]) (rest := []) CF (k_X0_begin l D cy _ a b z cd lk pl f 11 (by first | exact hz | exact tr1_le hz _ | exact trs_le _ hz | exact tr1_le (tr1_le hz _) _ | exact trs_le _ (tr1_le hz _) | exact tr1_le (trs_le _ (tr1_le hz _)) _ | exact trs_le _ (tr1_le (tr1_le hz _) _) | exact trs_le _ (trs_le _ (tr1_le hz _)))) (cwV 1 hts gX3_size_X0_begin rfl rfl rfl (by decide +kernel) ⟨Nat.le_of_ble_eq_true rfl, Nat.le_of_ble_eq_true rfl⟩) (pre_V hKN hP hD [1, 2] rfl (by decide) 1 0 rfl rfl) rfl rfl hl.1 rfl (lv_room (Nat.le_of_ble_eq_true rfl)) dX3_size_3 ⟨Nat.le_of_ble_eq_true rfl, Nat.le_of_ble_eq_true rfl⟩) hS hA hP hD [1, 2] [0] [0, 1, 2] rfl rfl (by decide) (by decide) (fun _ => rfl) (by decide) (fun u1 H locs hw3 hP hD hS => ?_)
  replace hw3 := hw3.symm; subst hw3
  have hP : va_P D vwCl ([(g, .inr (3, [])), (a, .inr (0, [.ref b, .int (nI (((tr1 (z, f) 11).1))), .int cd, .int lk, .int pl])), (b, wInt (cy 0) 16 ((tr1 (z, f) 11).2))]) H := hP
  have hD : va_D A_ ([(g, .inr (3, [])), (a, .inr (0, [.ref b, .int (nI (((tr1 (z, f) 11).1))), .int cd, .int lk, .int pl])), (b, wInt (cy 0) 16 ((tr1 (z, f) 11).2))]) := hD
  refine lv_aload_n hx hb dX3_size_6 rfl (lv_at hl 0 rfl) ?_
  refine lv_aload_n hx hb dX3_size_7 rfl (lv_at hl 1 rfl) ?_
  refine call_i (wr := [(g, .inr (3, []))]) (ws' := (fun u4 : Nat × (Nat → Int32) => [(g, .inr (3, [])), (a, .inr (0, [.ref b, .int (nI (u4.1)), .int cd, .int lk, .int pl])), (b, wInt (cy 0) 16 u4.2)])) (va_runSU (As := [.ref a]) (rest := []) (hK.1 3 _ rfl).2 CF (k_X4_size l D cy _ g a b ((tr1 (z, f) 11).1) cd lk pl ((tr1 (z, f) 11).2) (by first | exact hz | exact tr1_le hz _ | exact trs_le _ hz | exact tr1_le (tr1_le hz _) _ | exact trs_le _ (tr1_le hz _) | exact tr1_le (trs_le _ (tr1_le hz _)) _ | exact trs_le _ (tr1_le (tr1_le hz _) _) | exact trs_le _ (trs_le _ (tr1_le hz _)))) (va_cwSU 1 hts gX3_size_X4_size_s40 rfl rfl rfl (by decide +kernel) ⟨Nat.le_of_ble_eq_true rfl, Nat.le_of_ble_eq_true rfl⟩) (pre_V hKN hP hD [1, 2] rfl (by decide) 0 3 rfl rfl) rfl rfl hl.1 rfl (lv_room (Nat.le_of_ble_eq_true rfl)) dX3_size_8 ⟨Nat.le_of_ble_eq_true rfl, Nat.le_of_ble_eq_true rfl⟩) hS hA hP hD [1, 2] [0] [0, 1, 2] rfl rfl (by decide) (by decide) (fun _ => rfl) (by decide) (fun r5 u4 H locs hw6 hP hD hS => ?_)
  obtain ⟨hw6a, hw6b⟩ := hw6
  replace hw6a := hw6a.symm; subst hw6a
  replace hw6b := hw6b.symm; subst hw6b
  have hP : va_P D vwCl ([(g, .inr (3, [])), (a, .inr (0, [.ref b, .int (nI (((trs (((tr1 (z, f) 11).1), ((tr1 (z, f) 11).2)) [10]).1))), .int cd, .int lk, .int pl])), (b, wInt (cy 0) 16 ((trs (((tr1 (z, f) 11).1), ((tr1 (z, f) 11).2)) [10]).2))]) H := hP
  have hD : va_D A_ ([(g, .inr (3, [])), (a, .inr (0, [.ref b, .int (nI (((trs (((tr1 (z, f) 11).1), ((tr1 (z, f) 11).2)) [10]).1))), .int cd, .int lk, .int pl])), (b, wInt (cy 0) 16 ((trs (((tr1 (z, f) 11).1), ((tr1 (z, f) 11).2)) [10]).2))]) := hD
  refine lv_aload_n hx hb dX3_size_11 rfl (lv_at hl 0 rfl) ?_
  refine lv_aload_n hx hb dX3_size_12 rfl (lv_at hl 1 rfl) ?_
  refine call_i (wr := []) (ws' := (fun u7 : Nat × (Nat → Int32) => [(g, .inr (3, [])), (a, .inr (0, [.ref b, .int (nI (u7.1)), .int cd, .int lk, .int pl])), (b, wInt (cy 0) 16 u7.2)])) (va_runV (As := [.ref a]) (rest := [.int lk]) CF (k_X3_markX3 l D cy _ g a b ((trs (((tr1 (z, f) 11).1), ((tr1 (z, f) 11).2)) [10]).1) cd lk pl ((trs (((tr1 (z, f) 11).1), ((tr1 (z, f) 11).2)) [10]).2) (by first | exact hz | exact tr1_le hz _ | exact trs_le _ hz | exact tr1_le (tr1_le hz _) _ | exact trs_le _ (tr1_le hz _) | exact tr1_le (trs_le _ (tr1_le hz _)) _ | exact trs_le _ (tr1_le (tr1_le hz _) _) | exact trs_le _ (trs_le _ (tr1_le hz _)))) (cwV 1 hts gX3_size_X3_mark rfl rfl rfl (by decide +kernel) ⟨Nat.le_of_ble_eq_true rfl, Nat.le_of_ble_eq_true rfl⟩) (pre_V hKN hP hD [0, 1, 2] rfl (by decide) 0 3 rfl rfl) rfl rfl hl.1 rfl (lv_room (Nat.le_of_ble_eq_true rfl)) dX3_size_13 ⟨Nat.le_of_ble_eq_true rfl, Nat.le_of_ble_eq_true rfl⟩) hS hA hP hD [0, 1, 2] [] [0, 1, 2] rfl rfl (by decide) (by decide) (fun _ => rfl) (by decide) (fun r8 u7 H locs hw9 hP hD hS => ?_)
  obtain ⟨hw9a, hw9b⟩ := hw9
  replace hw9a := hw9a.symm; subst hw9a
  replace hw9b := hw9b.symm; subst hw9b
  have hP : va_P D vwCl ([(g, .inr (3, [])), (a, .inr (0, [.ref b, .int (nI (((trs (((trs (((tr1 (z, f) 11).1), ((tr1 (z, f) 11).2)) [10]).1), ((trs (((tr1 (z, f) 11).1), ((tr1 (z, f) 11).2)) [10]).2)) [21, 20]).1))), .int cd, .int lk, .int pl])), (b, wInt (cy 0) 16 ((trs (((trs (((tr1 (z, f) 11).1), ((tr1 (z, f) 11).2)) [10]).1), ((trs (((tr1 (z, f) 11).1), ((tr1 (z, f) 11).2)) [10]).2)) [21, 20]).2))]) H := hP
  have hD : va_D A_ ([(g, .inr (3, [])), (a, .inr (0, [.ref b, .int (nI (((trs (((trs (((tr1 (z, f) 11).1), ((tr1 (z, f) 11).2)) [10]).1), ((trs (((tr1 (z, f) 11).1), ((tr1 (z, f) 11).2)) [10]).2)) [21, 20]).1))), .int cd, .int lk, .int pl])), (b, wInt (cy 0) 16 ((trs (((trs (((tr1 (z, f) 11).1), ((tr1 (z, f) 11).2)) [10]).1), ((trs (((tr1 (z, f) 11).1), ((tr1 (z, f) 11).2)) [10]).2)) [21, 20]).2))]) := hD
  refine lv_iadd hx hb dX3_size_16 ?_
  exact ret _ (((trs (((trs (((tr1 (z, f) 11).1), ((tr1 (z, f) 11).2)) [10]).1), ((trs (((tr1 (z, f) 11).1), ((tr1 (z, f) 11).2)) [10]).2)) [21, 20]).1), ((trs (((trs (((tr1 (z, f) 11).1), ((tr1 (z, f) 11).2)) [10]).1), ((trs (((tr1 (z, f) 11).1), ((tr1 (z, f) 11).2)) [10]).2)) [21, 20]).2)) _ _ _ _ dX3_size_17 ⟨rfl, rfl⟩ hP hD hS
set_option maxHeartbeats 4000000 in
set_option maxRecDepth 100000 in
theorem k_X3_sizeX5 (l : Launch) (D : va_G) (cy : Nat → ClassId) (sz : Nat) (g : Nat) (a : Nat) (b : Nat) (z : Nat) (cd : Int32) (lk : Int32) (pl : Int32) (f : Nat → Int32) (hz : z ≤ 16) : Met l yX3_size wsX3_size (rmD 4) (pPre D (TY cy) ([(g, .inr (4, [])), (a, .inr (0, [.ref b, .int (nI z), .int cd, .int lk, .int pl])), (b, wInt (cy 0) 16 f)]) sz [.ref g, .ref a]) (pI D (TY cy) ([(g, .inr (4, [])), (a, .inr (0, [.ref b, .int (nI z), .int cd, .int lk, .int pl])), (b, wInt (cy 0) 16 f)]) sz (fun u : Nat × (Nat → Int32) => [(g, .inr (4, [])), (a, .inr (0, [.ref b, .int (nI u.1), .int cd, .int lk, .int pl])), (b, wInt (cy 0) 16 u.2)]) (fun (r_ : Int32) (u : Nat × (Nat → Int32)) => r_ = (lk + nI 2 * (cd + pl)) ∧ u = ((trs (z, f) [11, 10, 24, 21, 20]).1, (trs (z, f) [11, 10, 24, 21, 20]).2))) 0 0 (va_A ([(g, .inr (4, [])), (a, .inr (0, [.ref b, .int (nI z), .int cd, .int lk, .int pl])), (b, wInt (cy 0) 16 f)]) sz) := by
  refine ent_i (cc := cX3_size) (maxL := 2) (by decide +kernel) rfl (Nat.le_of_ble_eq_true rfl) ?_
  intro p_ e_ s_ m_ args_ below_ meth_ c_ A_ Q_ ls B0 ret
  obtain ⟨CF, hA, hKN, hP, hD, hl⟩ := B0
  have hK := hKN.1
  obtain ⟨hx, hb, hml, hown, hts⟩ := id CF
  have hS : va_S A_ s_.heap s_.heap [] := va_S.rf
  have hl : lv_has ls 2 [(0, .ref g), (1, .ref a)] := hl
  have hcd_X3_mark := (show Cond.code yX3_mark cX3_mark 2 (some .int) ∈ wsX3_size from List.mem_of_getElem? (i := 19) rfl)
  refine lv_aload_n hx hb dX3_size_0 rfl (lv_at hl 1 rfl) ?_
  refine lv_bipush (v := nI 11) hx hb dX3_size_1 (by decide) ?_
  refine call_v (wr := [(g, .inr (4, []))]) (ws' := (fun u1 : Nat × (Nat → Int32) => [(g, .inr (4, [])), (a, .inr (0, [.ref b, .int (nI (u1.1)), .int cd, .int lk, .int pl])), (b, wInt (cy 0) 16 u1.2)])) (va_runV (As := [.int (nI 11)]) (rest := []) CF (k_X0_begin l D cy _ a b z cd lk pl f 11 (by first | exact hz | exact tr1_le hz _ | exact trs_le _ hz | exact tr1_le (tr1_le hz _) _ | exact trs_le _ (tr1_le hz _) | exact tr1_le (trs_le _ (tr1_le hz _)) _ | exact trs_le _ (tr1_le (tr1_le hz _) _) | exact trs_le _ (trs_le _ (tr1_le hz _)))) (cwV 1 hts gX3_size_X0_begin rfl rfl rfl (by decide +kernel) ⟨Nat.le_of_ble_eq_true rfl, Nat.le_of_ble_eq_true rfl⟩) (pre_V hKN hP hD [1, 2] rfl (by decide) 1 0 rfl rfl) rfl rfl hl.1 rfl (lv_room (Nat.le_of_ble_eq_true rfl)) dX3_size_3 ⟨Nat.le_of_ble_eq_true rfl, Nat.le_of_ble_eq_true rfl⟩) hS hA hP hD [1, 2] [0] [0, 1, 2] rfl rfl (by decide) (by decide) (fun _ => rfl) (by decide) (fun u1 H locs hw3 hP hD hS => ?_)
  replace hw3 := hw3.symm; subst hw3
  have hP : va_P D vwCl ([(g, .inr (4, [])), (a, .inr (0, [.ref b, .int (nI (((tr1 (z, f) 11).1))), .int cd, .int lk, .int pl])), (b, wInt (cy 0) 16 ((tr1 (z, f) 11).2))]) H := hP
  have hD : va_D A_ ([(g, .inr (4, [])), (a, .inr (0, [.ref b, .int (nI (((tr1 (z, f) 11).1))), .int cd, .int lk, .int pl])), (b, wInt (cy 0) 16 ((tr1 (z, f) 11).2))]) := hD
  refine lv_aload_n hx hb dX3_size_6 rfl (lv_at hl 0 rfl) ?_
  refine lv_aload_n hx hb dX3_size_7 rfl (lv_at hl 1 rfl) ?_
  refine call_i (wr := [(g, .inr (4, []))]) (ws' := (fun u4 : Nat × (Nat → Int32) => [(g, .inr (4, [])), (a, .inr (0, [.ref b, .int (nI (u4.1)), .int cd, .int lk, .int pl])), (b, wInt (cy 0) 16 u4.2)])) (va_runSU (As := [.ref a]) (rest := []) (hK.1 4 _ rfl).2 CF (k_X4_size l D cy _ g a b ((tr1 (z, f) 11).1) cd lk pl ((tr1 (z, f) 11).2) (by first | exact hz | exact tr1_le hz _ | exact trs_le _ hz | exact tr1_le (tr1_le hz _) _ | exact trs_le _ (tr1_le hz _) | exact tr1_le (trs_le _ (tr1_le hz _)) _ | exact trs_le _ (tr1_le (tr1_le hz _) _) | exact trs_le _ (trs_le _ (tr1_le hz _)))) (va_cwSU 1 hts gX3_size_X4_size_s40 rfl rfl rfl (by decide +kernel) ⟨Nat.le_of_ble_eq_true rfl, Nat.le_of_ble_eq_true rfl⟩) (pre_V hKN hP hD [1, 2] rfl (by decide) 0 4 rfl rfl) rfl rfl hl.1 rfl (lv_room (Nat.le_of_ble_eq_true rfl)) dX3_size_8 ⟨Nat.le_of_ble_eq_true rfl, Nat.le_of_ble_eq_true rfl⟩) hS hA hP hD [1, 2] [0] [0, 1, 2] rfl rfl (by decide) (by decide) (fun _ => rfl) (by decide) (fun r5 u4 H locs hw6 hP hD hS => ?_)
  obtain ⟨hw6a, hw6b⟩ := hw6
  replace hw6a := hw6a.symm; subst hw6a
  replace hw6b := hw6b.symm; subst hw6b
  have hP : va_P D vwCl ([(g, .inr (4, [])), (a, .inr (0, [.ref b, .int (nI (((trs (((tr1 (z, f) 11).1), ((tr1 (z, f) 11).2)) [10]).1))), .int cd, .int lk, .int pl])), (b, wInt (cy 0) 16 ((trs (((tr1 (z, f) 11).1), ((tr1 (z, f) 11).2)) [10]).2))]) H := hP
  have hD : va_D A_ ([(g, .inr (4, [])), (a, .inr (0, [.ref b, .int (nI (((trs (((tr1 (z, f) 11).1), ((tr1 (z, f) 11).2)) [10]).1))), .int cd, .int lk, .int pl])), (b, wInt (cy 0) 16 ((trs (((tr1 (z, f) 11).1), ((tr1 (z, f) 11).2)) [10]).2))]) := hD
  refine lv_aload_n hx hb dX3_size_11 rfl (lv_at hl 0 rfl) ?_
  refine lv_aload_n hx hb dX3_size_12 rfl (lv_at hl 1 rfl) ?_
  refine call_i (wr := []) (ws' := (fun u7 : Nat × (Nat → Int32) => [(g, .inr (4, [])), (a, .inr (0, [.ref b, .int (nI (u7.1)), .int cd, .int lk, .int pl])), (b, wInt (cy 0) 16 u7.2)])) (va_runU (As := [.ref a]) (rest := [.int lk]) CF (k_X5_markX5 l D cy _ g a b ((trs (((tr1 (z, f) 11).1), ((tr1 (z, f) 11).2)) [10]).1) cd lk pl ((trs (((tr1 (z, f) 11).1), ((tr1 (z, f) 11).2)) [10]).2) (by first | exact hz | exact tr1_le hz _ | exact trs_le _ hz | exact tr1_le (tr1_le hz _) _ | exact trs_le _ (tr1_le hz _) | exact tr1_le (trs_le _ (tr1_le hz _)) _ | exact trs_le _ (tr1_le (tr1_le hz _) _) | exact trs_le _ (trs_le _ (tr1_le hz _)))) (va_cwO 1 hts gX3_size_X5_mark_u44X5 rfl rfl rfl hcd_X3_mark (by decide +kernel) ⟨Nat.le_of_ble_eq_true rfl, Nat.le_of_ble_eq_true rfl⟩) (pre_V hKN hP hD [0, 1, 2] rfl (by decide) 0 4 rfl rfl) rfl rfl hl.1 rfl (lv_room (Nat.le_of_ble_eq_true rfl)) dX3_size_13 ⟨Nat.le_of_ble_eq_true rfl, Nat.le_of_ble_eq_true rfl⟩) hS hA hP hD [0, 1, 2] [] [0, 1, 2] rfl rfl (by decide) (by decide) (fun _ => rfl) (by decide) (fun r8 u7 H locs hw9 hP hD hS => ?_)
  obtain ⟨hw9a, hw9b⟩ := hw9
  replace hw9a := hw9a.symm; subst hw9a
  replace hw9b := hw9b.symm; subst hw9b
  have hP : va_P D vwCl ([(g, .inr (4, [])), (a, .inr (0, [.ref b, .int (nI (((trs (((trs (((tr1 (z, f) 11).1), ((tr1 (z, f) 11).2)) [10]).1), ((trs (((tr1 (z, f) 11).1), ((tr1 (z, f) 11).2)) [10]).2)) [24, 21, 20]).1))), .int cd, .int lk, .int pl])), (b, wInt (cy 0) 16 ((trs (((trs (((tr1 (z, f) 11).1), ((tr1 (z, f) 11).2)) [10]).1), ((trs (((tr1 (z, f) 11).1), ((tr1 (z, f) 11).2)) [10]).2)) [24, 21, 20]).2))]) H := hP
  have hD : va_D A_ ([(g, .inr (4, [])), (a, .inr (0, [.ref b, .int (nI (((trs (((trs (((tr1 (z, f) 11).1), ((tr1 (z, f) 11).2)) [10]).1), ((trs (((tr1 (z, f) 11).1), ((tr1 (z, f) 11).2)) [10]).2)) [24, 21, 20]).1))), .int cd, .int lk, .int pl])), (b, wInt (cy 0) 16 ((trs (((trs (((tr1 (z, f) 11).1), ((tr1 (z, f) 11).2)) [10]).1), ((trs (((tr1 (z, f) 11).1), ((tr1 (z, f) 11).2)) [10]).2)) [24, 21, 20]).2))]) := hD
  refine lv_iadd hx hb dX3_size_16 ?_
  exact ret _ (((trs (((trs (((tr1 (z, f) 11).1), ((tr1 (z, f) 11).2)) [10]).1), ((trs (((tr1 (z, f) 11).1), ((tr1 (z, f) 11).2)) [10]).2)) [24, 21, 20]).1), ((trs (((trs (((tr1 (z, f) 11).1), ((tr1 (z, f) 11).2)) [10]).1), ((trs (((tr1 (z, f) 11).1), ((tr1 (z, f) 11).2)) [10]).2)) [24, 21, 20]).2)) _ _ _ _ dX3_size_17 ⟨rfl, rfl⟩ hP hD hS
set_option maxHeartbeats 4000000 in
set_option maxRecDepth 100000 in
theorem k_X3_sizeX10 (l : Launch) (D : va_G) (cy : Nat → ClassId) (sz : Nat) (g : Nat) (a : Nat) (b : Nat) (z : Nat) (cd : Int32) (lk : Int32) (pl : Int32) (f : Nat → Int32) (hz : z ≤ 16) : Met l yX3_size wsX3_size (rmD 4) (pPre D (TY cy) ([(g, .inr (9, [])), (a, .inr (0, [.ref b, .int (nI z), .int cd, .int lk, .int pl])), (b, wInt (cy 0) 16 f)]) sz [.ref g, .ref a]) (pI D (TY cy) ([(g, .inr (9, [])), (a, .inr (0, [.ref b, .int (nI z), .int cd, .int lk, .int pl])), (b, wInt (cy 0) 16 f)]) sz (fun u : Nat × (Nat → Int32) => [(g, .inr (9, [])), (a, .inr (0, [.ref b, .int (nI u.1), .int cd, .int lk, .int pl])), (b, wInt (cy 0) 16 u.2)]) (fun (r_ : Int32) (u : Nat × (Nat → Int32)) => r_ = (lk + ((cd + pl) - nI 1000)) ∧ u = ((trs (z, f) [11, 10, 22, 21, 20]).1, (trs (z, f) [11, 10, 22, 21, 20]).2))) 0 0 (va_A ([(g, .inr (9, [])), (a, .inr (0, [.ref b, .int (nI z), .int cd, .int lk, .int pl])), (b, wInt (cy 0) 16 f)]) sz) := by
  refine ent_i (cc := cX3_size) (maxL := 2) (by decide +kernel) rfl (Nat.le_of_ble_eq_true rfl) ?_
  intro p_ e_ s_ m_ args_ below_ meth_ c_ A_ Q_ ls B0 ret
  obtain ⟨CF, hA, hKN, hP, hD, hl⟩ := B0
  have hK := hKN.1
  obtain ⟨hx, hb, hml, hown, hts⟩ := id CF
  have hS : va_S A_ s_.heap s_.heap [] := va_S.rf
  have hl : lv_has ls 2 [(0, .ref g), (1, .ref a)] := hl
  have hcd_X3_mark := (show Cond.code yX3_mark cX3_mark 2 (some .int) ∈ wsX3_size from List.mem_of_getElem? (i := 19) rfl)
  refine lv_aload_n hx hb dX3_size_0 rfl (lv_at hl 1 rfl) ?_
  refine lv_bipush (v := nI 11) hx hb dX3_size_1 (by decide) ?_
  refine call_v (wr := [(g, .inr (9, []))]) (ws' := (fun u1 : Nat × (Nat → Int32) => [(g, .inr (9, [])), (a, .inr (0, [.ref b, .int (nI (u1.1)), .int cd, .int lk, .int pl])), (b, wInt (cy 0) 16 u1.2)])) (va_runV (As := [.int (nI 11)]) (rest := []) CF (k_X0_begin l D cy _ a b z cd lk pl f 11 (by first | exact hz | exact tr1_le hz _ | exact trs_le _ hz | exact tr1_le (tr1_le hz _) _ | exact trs_le _ (tr1_le hz _) | exact tr1_le (trs_le _ (tr1_le hz _)) _ | exact trs_le _ (tr1_le (tr1_le hz _) _) | exact trs_le _ (trs_le _ (tr1_le hz _)))) (cwV 1 hts gX3_size_X0_begin rfl rfl rfl (by decide +kernel) ⟨Nat.le_of_ble_eq_true rfl, Nat.le_of_ble_eq_true rfl⟩) (pre_V hKN hP hD [1, 2] rfl (by decide) 1 0 rfl rfl) rfl rfl hl.1 rfl (lv_room (Nat.le_of_ble_eq_true rfl)) dX3_size_3 ⟨Nat.le_of_ble_eq_true rfl, Nat.le_of_ble_eq_true rfl⟩) hS hA hP hD [1, 2] [0] [0, 1, 2] rfl rfl (by decide) (by decide) (fun _ => rfl) (by decide) (fun u1 H locs hw3 hP hD hS => ?_)
  replace hw3 := hw3.symm; subst hw3
  have hP : va_P D vwCl ([(g, .inr (9, [])), (a, .inr (0, [.ref b, .int (nI (((tr1 (z, f) 11).1))), .int cd, .int lk, .int pl])), (b, wInt (cy 0) 16 ((tr1 (z, f) 11).2))]) H := hP
  have hD : va_D A_ ([(g, .inr (9, [])), (a, .inr (0, [.ref b, .int (nI (((tr1 (z, f) 11).1))), .int cd, .int lk, .int pl])), (b, wInt (cy 0) 16 ((tr1 (z, f) 11).2))]) := hD
  refine lv_aload_n hx hb dX3_size_6 rfl (lv_at hl 0 rfl) ?_
  refine lv_aload_n hx hb dX3_size_7 rfl (lv_at hl 1 rfl) ?_
  refine call_i (wr := [(g, .inr (9, []))]) (ws' := (fun u4 : Nat × (Nat → Int32) => [(g, .inr (9, [])), (a, .inr (0, [.ref b, .int (nI (u4.1)), .int cd, .int lk, .int pl])), (b, wInt (cy 0) 16 u4.2)])) (va_runSU (As := [.ref a]) (rest := []) (hK.1 9 _ rfl).2 CF (k_X4_size l D cy _ g a b ((tr1 (z, f) 11).1) cd lk pl ((tr1 (z, f) 11).2) (by first | exact hz | exact tr1_le hz _ | exact trs_le _ hz | exact tr1_le (tr1_le hz _) _ | exact trs_le _ (tr1_le hz _) | exact tr1_le (trs_le _ (tr1_le hz _)) _ | exact trs_le _ (tr1_le (tr1_le hz _) _) | exact trs_le _ (trs_le _ (tr1_le hz _)))) (va_cwSU 1 hts gX3_size_X4_size_s40 rfl rfl rfl (by decide +kernel) ⟨Nat.le_of_ble_eq_true rfl, Nat.le_of_ble_eq_true rfl⟩) (pre_V hKN hP hD [1, 2] rfl (by decide) 0 9 rfl rfl) rfl rfl hl.1 rfl (lv_room (Nat.le_of_ble_eq_true rfl)) dX3_size_8 ⟨Nat.le_of_ble_eq_true rfl, Nat.le_of_ble_eq_true rfl⟩) hS hA hP hD [1, 2] [0] [0, 1, 2] rfl rfl (by decide) (by decide) (fun _ => rfl) (by decide) (fun r5 u4 H locs hw6 hP hD hS => ?_)
  obtain ⟨hw6a, hw6b⟩ := hw6
  replace hw6a := hw6a.symm; subst hw6a
  replace hw6b := hw6b.symm; subst hw6b
  have hP : va_P D vwCl ([(g, .inr (9, [])), (a, .inr (0, [.ref b, .int (nI (((trs (((tr1 (z, f) 11).1), ((tr1 (z, f) 11).2)) [10]).1))), .int cd, .int lk, .int pl])), (b, wInt (cy 0) 16 ((trs (((tr1 (z, f) 11).1), ((tr1 (z, f) 11).2)) [10]).2))]) H := hP
  have hD : va_D A_ ([(g, .inr (9, [])), (a, .inr (0, [.ref b, .int (nI (((trs (((tr1 (z, f) 11).1), ((tr1 (z, f) 11).2)) [10]).1))), .int cd, .int lk, .int pl])), (b, wInt (cy 0) 16 ((trs (((tr1 (z, f) 11).1), ((tr1 (z, f) 11).2)) [10]).2))]) := hD
  refine lv_aload_n hx hb dX3_size_11 rfl (lv_at hl 0 rfl) ?_
  refine lv_aload_n hx hb dX3_size_12 rfl (lv_at hl 1 rfl) ?_
  refine call_i (wr := []) (ws' := (fun u7 : Nat × (Nat → Int32) => [(g, .inr (9, [])), (a, .inr (0, [.ref b, .int (nI (u7.1)), .int cd, .int lk, .int pl])), (b, wInt (cy 0) 16 u7.2)])) (va_runU (As := [.ref a]) (rest := [.int lk]) CF (k_X10_markX10 l D cy _ g a b ((trs (((tr1 (z, f) 11).1), ((tr1 (z, f) 11).2)) [10]).1) cd lk pl ((trs (((tr1 (z, f) 11).1), ((tr1 (z, f) 11).2)) [10]).2) (by first | exact hz | exact tr1_le hz _ | exact trs_le _ hz | exact tr1_le (tr1_le hz _) _ | exact trs_le _ (tr1_le hz _) | exact tr1_le (trs_le _ (tr1_le hz _)) _ | exact trs_le _ (tr1_le (tr1_le hz _) _) | exact trs_le _ (trs_le _ (tr1_le hz _)))) (va_cwO 1 hts gX3_size_X10_mark_u44X10 rfl rfl rfl hcd_X3_mark (by decide +kernel) ⟨Nat.le_of_ble_eq_true rfl, Nat.le_of_ble_eq_true rfl⟩) (pre_V hKN hP hD [0, 1, 2] rfl (by decide) 0 9 rfl rfl) rfl rfl hl.1 rfl (lv_room (Nat.le_of_ble_eq_true rfl)) dX3_size_13 ⟨Nat.le_of_ble_eq_true rfl, Nat.le_of_ble_eq_true rfl⟩) hS hA hP hD [0, 1, 2] [] [0, 1, 2] rfl rfl (by decide) (by decide) (fun _ => rfl) (by decide) (fun r8 u7 H locs hw9 hP hD hS => ?_)
  obtain ⟨hw9a, hw9b⟩ := hw9
  replace hw9a := hw9a.symm; subst hw9a
  replace hw9b := hw9b.symm; subst hw9b
  have hP : va_P D vwCl ([(g, .inr (9, [])), (a, .inr (0, [.ref b, .int (nI (((trs (((trs (((tr1 (z, f) 11).1), ((tr1 (z, f) 11).2)) [10]).1), ((trs (((tr1 (z, f) 11).1), ((tr1 (z, f) 11).2)) [10]).2)) [22, 21, 20]).1))), .int cd, .int lk, .int pl])), (b, wInt (cy 0) 16 ((trs (((trs (((tr1 (z, f) 11).1), ((tr1 (z, f) 11).2)) [10]).1), ((trs (((tr1 (z, f) 11).1), ((tr1 (z, f) 11).2)) [10]).2)) [22, 21, 20]).2))]) H := hP
  have hD : va_D A_ ([(g, .inr (9, [])), (a, .inr (0, [.ref b, .int (nI (((trs (((trs (((tr1 (z, f) 11).1), ((tr1 (z, f) 11).2)) [10]).1), ((trs (((tr1 (z, f) 11).1), ((tr1 (z, f) 11).2)) [10]).2)) [22, 21, 20]).1))), .int cd, .int lk, .int pl])), (b, wInt (cy 0) 16 ((trs (((trs (((tr1 (z, f) 11).1), ((tr1 (z, f) 11).2)) [10]).1), ((trs (((tr1 (z, f) 11).1), ((tr1 (z, f) 11).2)) [10]).2)) [22, 21, 20]).2))]) := hD
  refine lv_iadd hx hb dX3_size_16 ?_
  exact ret _ (((trs (((trs (((tr1 (z, f) 11).1), ((tr1 (z, f) 11).2)) [10]).1), ((trs (((tr1 (z, f) 11).1), ((tr1 (z, f) 11).2)) [10]).2)) [22, 21, 20]).1), ((trs (((trs (((tr1 (z, f) 11).1), ((tr1 (z, f) 11).2)) [10]).1), ((trs (((tr1 (z, f) 11).1), ((tr1 (z, f) 11).2)) [10]).2)) [22, 21, 20]).2)) _ _ _ _ dX3_size_17 ⟨rfl, rfl⟩ hP hD hS
set_option maxHeartbeats 4000000 in
set_option maxRecDepth 100000 in
theorem k_X5_sizeX5 (l : Launch) (D : va_G) (cy : Nat → ClassId) (sz : Nat) (g : Nat) (a : Nat) (b : Nat) (z : Nat) (cd : Int32) (lk : Int32) (pl : Int32) (f : Nat → Int32) (hz : z ≤ 16) : Met l yX5_size wsX5_size (rmD 5) (pPre D (TY cy) ([(g, .inr (4, [])), (a, .inr (0, [.ref b, .int (nI z), .int cd, .int lk, .int pl])), (b, wInt (cy 0) 16 f)]) sz [.ref g, .ref a]) (pI D (TY cy) ([(g, .inr (4, [])), (a, .inr (0, [.ref b, .int (nI z), .int cd, .int lk, .int pl])), (b, wInt (cy 0) 16 f)]) sz (fun u : Nat × (Nat → Int32) => [(g, .inr (4, [])), (a, .inr (0, [.ref b, .int (nI u.1), .int cd, .int lk, .int pl])), (b, wInt (cy 0) 16 u.2)]) (fun (r_ : Int32) (u : Nat × (Nat → Int32)) => r_ = (-(lk + nI 2 * (cd + pl))) ∧ u = ((trs (z, f) [12, 11, 10, 24, 21, 20]).1, (trs (z, f) [12, 11, 10, 24, 21, 20]).2))) 0 0 (va_A ([(g, .inr (4, [])), (a, .inr (0, [.ref b, .int (nI z), .int cd, .int lk, .int pl])), (b, wInt (cy 0) 16 f)]) sz) := by
  refine ent_i (cc := cX5_size) (maxL := 2) (by decide +kernel) rfl (Nat.le_of_ble_eq_true rfl) ?_
  intro p_ e_ s_ m_ args_ below_ meth_ c_ A_ Q_ ls B0 ret
  obtain ⟨CF, hA, hKN, hP, hD, hl⟩ := B0
  have hK := hKN.1
  obtain ⟨hx, hb, hml, hown, hts⟩ := id CF
  have hS : va_S A_ s_.heap s_.heap [] := va_S.rf
  have hl : lv_has ls 2 [(0, .ref g), (1, .ref a)] := hl
  refine lv_aload_n hx hb dX5_size_0 rfl (lv_at hl 1 rfl) ?_
  refine lv_bipush (v := nI 12) hx hb dX5_size_1 (by decide) ?_
  refine call_v (wr := [(g, .inr (4, []))]) (ws' := (fun u1 : Nat × (Nat → Int32) => [(g, .inr (4, [])), (a, .inr (0, [.ref b, .int (nI (u1.1)), .int cd, .int lk, .int pl])), (b, wInt (cy 0) 16 u1.2)])) (va_runV (As := [.int (nI 12)]) (rest := []) CF (k_X0_begin l D cy _ a b z cd lk pl f 12 (by first | exact hz | exact tr1_le hz _ | exact trs_le _ hz | exact tr1_le (tr1_le hz _) _ | exact trs_le _ (tr1_le hz _) | exact tr1_le (trs_le _ (tr1_le hz _)) _ | exact trs_le _ (tr1_le (tr1_le hz _) _) | exact trs_le _ (trs_le _ (tr1_le hz _)))) (cwV 1 hts gX5_size_X0_begin rfl rfl rfl (by decide +kernel) ⟨Nat.le_of_ble_eq_true rfl, Nat.le_of_ble_eq_true rfl⟩) (pre_V hKN hP hD [1, 2] rfl (by decide) 1 0 rfl rfl) rfl rfl hl.1 rfl (lv_room (Nat.le_of_ble_eq_true rfl)) dX5_size_3 ⟨Nat.le_of_ble_eq_true rfl, Nat.le_of_ble_eq_true rfl⟩) hS hA hP hD [1, 2] [0] [0, 1, 2] rfl rfl (by decide) (by decide) (fun _ => rfl) (by decide) (fun u1 H locs hw3 hP hD hS => ?_)
  replace hw3 := hw3.symm; subst hw3
  have hP : va_P D vwCl ([(g, .inr (4, [])), (a, .inr (0, [.ref b, .int (nI (((tr1 (z, f) 12).1))), .int cd, .int lk, .int pl])), (b, wInt (cy 0) 16 ((tr1 (z, f) 12).2))]) H := hP
  have hD : va_D A_ ([(g, .inr (4, [])), (a, .inr (0, [.ref b, .int (nI (((tr1 (z, f) 12).1))), .int cd, .int lk, .int pl])), (b, wInt (cy 0) 16 ((tr1 (z, f) 12).2))]) := hD
  refine lv_aload_n hx hb dX5_size_6 rfl (lv_at hl 0 rfl) ?_
  refine lv_aload_n hx hb dX5_size_7 rfl (lv_at hl 1 rfl) ?_
  refine call_i (wr := []) (ws' := (fun u4 : Nat × (Nat → Int32) => [(g, .inr (4, [])), (a, .inr (0, [.ref b, .int (nI (u4.1)), .int cd, .int lk, .int pl])), (b, wInt (cy 0) 16 u4.2)])) (va_runSU (As := [.ref a]) (rest := []) (hK.1 4 _ rfl).2 CF (k_X3_sizeX5 l D cy _ g a b ((tr1 (z, f) 12).1) cd lk pl ((tr1 (z, f) 12).2) (by first | exact hz | exact tr1_le hz _ | exact trs_le _ hz | exact tr1_le (tr1_le hz _) _ | exact trs_le _ (tr1_le hz _) | exact tr1_le (trs_le _ (tr1_le hz _)) _ | exact trs_le _ (tr1_le (tr1_le hz _) _) | exact trs_le _ (trs_le _ (tr1_le hz _)))) (va_cwSU 1 hts gX5_size_X3_size_s13 rfl rfl rfl (by decide +kernel) ⟨Nat.le_of_ble_eq_true rfl, Nat.le_of_ble_eq_true rfl⟩) (pre_V hKN hP hD [0, 1, 2] rfl (by decide) 0 4 rfl rfl) rfl rfl hl.1 rfl (lv_room (Nat.le_of_ble_eq_true rfl)) dX5_size_8 ⟨Nat.le_of_ble_eq_true rfl, Nat.le_of_ble_eq_true rfl⟩) hS hA hP hD [0, 1, 2] [] [0, 1, 2] rfl rfl (by decide) (by decide) (fun _ => rfl) (by decide) (fun r5 u4 H locs hw6 hP hD hS => ?_)
  obtain ⟨hw6a, hw6b⟩ := hw6
  replace hw6a := hw6a.symm; subst hw6a
  replace hw6b := hw6b.symm; subst hw6b
  have hP : va_P D vwCl ([(g, .inr (4, [])), (a, .inr (0, [.ref b, .int (nI (((trs (((tr1 (z, f) 12).1), ((tr1 (z, f) 12).2)) [11, 10, 24, 21, 20]).1))), .int cd, .int lk, .int pl])), (b, wInt (cy 0) 16 ((trs (((tr1 (z, f) 12).1), ((tr1 (z, f) 12).2)) [11, 10, 24, 21, 20]).2))]) H := hP
  have hD : va_D A_ ([(g, .inr (4, [])), (a, .inr (0, [.ref b, .int (nI (((trs (((tr1 (z, f) 12).1), ((tr1 (z, f) 12).2)) [11, 10, 24, 21, 20]).1))), .int cd, .int lk, .int pl])), (b, wInt (cy 0) 16 ((trs (((tr1 (z, f) 12).1), ((tr1 (z, f) 12).2)) [11, 10, 24, 21, 20]).2))]) := hD
  refine lv_ineg hx hb dX5_size_11 ?_
  exact ret _ (((trs (((tr1 (z, f) 12).1), ((tr1 (z, f) 12).2)) [11, 10, 24, 21, 20]).1), ((trs (((tr1 (z, f) 12).1), ((tr1 (z, f) 12).2)) [11, 10, 24, 21, 20]).2)) _ _ _ _ dX5_size_12 ⟨rfl, rfl⟩ hP hD hS
set_option maxHeartbeats 4000000 in
set_option maxRecDepth 100000 in
theorem k_X7_sizeX7 (l : Launch) (D : va_G) (cy : Nat → ClassId) (sz : Nat) (g : Nat) (a : Nat) (b : Nat) (z : Nat) (cd : Int32) (lk : Int32) (pl : Int32) (f : Nat → Int32) (hz : z ≤ 16) : Met l yX7_size wsX7_size (rmD 2) (pPre D (TY cy) ([(g, .inr (6, [])), (a, .inr (0, [.ref b, .int (nI z), .int cd, .int lk, .int pl])), (b, wInt (cy 0) 16 f)]) sz [.ref g, .ref a]) (pI D (TY cy) ([(g, .inr (6, [])), (a, .inr (0, [.ref b, .int (nI z), .int cd, .int lk, .int pl])), (b, wInt (cy 0) 16 f)]) sz (fun u : Nat × (Nat → Int32) => [(g, .inr (6, [])), (a, .inr (0, [.ref b, .int (nI u.1), .int cd, .int lk, .int pl])), (b, wInt (cy 0) 16 u.2)]) (fun (r_ : Int32) (u : Nat × (Nat → Int32)) => r_ = (lk - nI 100) ∧ u = ((trs (z, f) [13, 10]).1, (trs (z, f) [13, 10]).2))) 0 0 (va_A ([(g, .inr (6, [])), (a, .inr (0, [.ref b, .int (nI z), .int cd, .int lk, .int pl])), (b, wInt (cy 0) 16 f)]) sz) := by
  refine ent_i (cc := cX7_size) (maxL := 2) (by decide +kernel) rfl (Nat.le_of_ble_eq_true rfl) ?_
  intro p_ e_ s_ m_ args_ below_ meth_ c_ A_ Q_ ls B0 ret
  obtain ⟨CF, hA, hKN, hP, hD, hl⟩ := B0
  have hK := hKN.1
  obtain ⟨hx, hb, hml, hown, hts⟩ := id CF
  have hS : va_S A_ s_.heap s_.heap [] := va_S.rf
  have hl : lv_has ls 2 [(0, .ref g), (1, .ref a)] := hl
  refine lv_aload_n hx hb dX7_size_0 rfl (lv_at hl 1 rfl) ?_
  refine lv_bipush (v := nI 13) hx hb dX7_size_1 (by decide) ?_
  refine call_v (wr := [(g, .inr (6, []))]) (ws' := (fun u1 : Nat × (Nat → Int32) => [(g, .inr (6, [])), (a, .inr (0, [.ref b, .int (nI (u1.1)), .int cd, .int lk, .int pl])), (b, wInt (cy 0) 16 u1.2)])) (va_runV (As := [.int (nI 13)]) (rest := []) CF (k_X0_begin l D cy _ a b z cd lk pl f 13 (by first | exact hz | exact tr1_le hz _ | exact trs_le _ hz | exact tr1_le (tr1_le hz _) _ | exact trs_le _ (tr1_le hz _) | exact tr1_le (trs_le _ (tr1_le hz _)) _ | exact trs_le _ (tr1_le (tr1_le hz _) _) | exact trs_le _ (trs_le _ (tr1_le hz _)))) (cwV 1 hts gX7_size_X0_begin rfl rfl rfl (by decide +kernel) ⟨Nat.le_of_ble_eq_true rfl, Nat.le_of_ble_eq_true rfl⟩) (pre_V hKN hP hD [1, 2] rfl (by decide) 1 0 rfl rfl) rfl rfl hl.1 rfl (lv_room (Nat.le_of_ble_eq_true rfl)) dX7_size_3 ⟨Nat.le_of_ble_eq_true rfl, Nat.le_of_ble_eq_true rfl⟩) hS hA hP hD [1, 2] [0] [0, 1, 2] rfl rfl (by decide) (by decide) (fun _ => rfl) (by decide) (fun u1 H locs hw3 hP hD hS => ?_)
  replace hw3 := hw3.symm; subst hw3
  have hP : va_P D vwCl ([(g, .inr (6, [])), (a, .inr (0, [.ref b, .int (nI (((tr1 (z, f) 13).1))), .int cd, .int lk, .int pl])), (b, wInt (cy 0) 16 ((tr1 (z, f) 13).2))]) H := hP
  have hD : va_D A_ ([(g, .inr (6, [])), (a, .inr (0, [.ref b, .int (nI (((tr1 (z, f) 13).1))), .int cd, .int lk, .int pl])), (b, wInt (cy 0) 16 ((tr1 (z, f) 13).2))]) := hD
  refine lv_aload_n hx hb dX7_size_6 rfl (lv_at hl 0 rfl) ?_
  refine lv_aload_n hx hb dX7_size_7 rfl (lv_at hl 1 rfl) ?_
  refine call_i (wr := [(g, .inr (6, []))]) (ws' := (fun u4 : Nat × (Nat → Int32) => [(g, .inr (6, [])), (a, .inr (0, [.ref b, .int (nI (u4.1)), .int cd, .int lk, .int pl])), (b, wInt (cy 0) 16 u4.2)])) (va_runSU (As := [.ref a]) (rest := []) (hK.1 6 _ rfl).2 CF (k_X4_size l D cy _ g a b ((tr1 (z, f) 13).1) cd lk pl ((tr1 (z, f) 13).2) (by first | exact hz | exact tr1_le hz _ | exact trs_le _ hz | exact tr1_le (tr1_le hz _) _ | exact trs_le _ (tr1_le hz _) | exact tr1_le (trs_le _ (tr1_le hz _)) _ | exact trs_le _ (tr1_le (tr1_le hz _) _) | exact trs_le _ (trs_le _ (tr1_le hz _)))) (va_cwSU 1 hts gX7_size_X4_size_s15 rfl rfl rfl (by decide +kernel) ⟨Nat.le_of_ble_eq_true rfl, Nat.le_of_ble_eq_true rfl⟩) (pre_V hKN hP hD [1, 2] rfl (by decide) 0 6 rfl rfl) rfl rfl hl.1 rfl (lv_room (Nat.le_of_ble_eq_true rfl)) dX7_size_8 ⟨Nat.le_of_ble_eq_true rfl, Nat.le_of_ble_eq_true rfl⟩) hS hA hP hD [1, 2] [0] [0, 1, 2] rfl rfl (by decide) (by decide) (fun _ => rfl) (by decide) (fun r5 u4 H locs hw6 hP hD hS => ?_)
  obtain ⟨hw6a, hw6b⟩ := hw6
  replace hw6a := hw6a.symm; subst hw6a
  replace hw6b := hw6b.symm; subst hw6b
  have hP : va_P D vwCl ([(g, .inr (6, [])), (a, .inr (0, [.ref b, .int (nI (((trs (((tr1 (z, f) 13).1), ((tr1 (z, f) 13).2)) [10]).1))), .int cd, .int lk, .int pl])), (b, wInt (cy 0) 16 ((trs (((tr1 (z, f) 13).1), ((tr1 (z, f) 13).2)) [10]).2))]) H := hP
  have hD : va_D A_ ([(g, .inr (6, [])), (a, .inr (0, [.ref b, .int (nI (((trs (((tr1 (z, f) 13).1), ((tr1 (z, f) 13).2)) [10]).1))), .int cd, .int lk, .int pl])), (b, wInt (cy 0) 16 ((trs (((tr1 (z, f) 13).1), ((tr1 (z, f) 13).2)) [10]).2))]) := hD
  refine lv_bipush (v := nI 100) hx hb dX7_size_11 (by decide) ?_
  refine lv_isub hx hb dX7_size_13 ?_
  exact ret _ (((trs (((tr1 (z, f) 13).1), ((tr1 (z, f) 13).2)) [10]).1), ((trs (((tr1 (z, f) 13).1), ((tr1 (z, f) 13).2)) [10]).2)) _ _ _ _ dX7_size_14 ⟨rfl, rfl⟩ hP hD hS
set_option maxHeartbeats 4000000 in
set_option maxRecDepth 100000 in
theorem k_X7_sizeX1 (l : Launch) (D : va_G) (cy : Nat → ClassId) (sz : Nat) (g : Nat) (a : Nat) (b : Nat) (z : Nat) (cd : Int32) (lk : Int32) (pl : Int32) (f : Nat → Int32) (hz : z ≤ 16) : Met l yX7_size wsX7_size (rmD 2) (pPre D (TY cy) ([(g, .inr (1, [])), (a, .inr (0, [.ref b, .int (nI z), .int cd, .int lk, .int pl])), (b, wInt (cy 0) 16 f)]) sz [.ref g, .ref a]) (pI D (TY cy) ([(g, .inr (1, [])), (a, .inr (0, [.ref b, .int (nI z), .int cd, .int lk, .int pl])), (b, wInt (cy 0) 16 f)]) sz (fun u : Nat × (Nat → Int32) => [(g, .inr (1, [])), (a, .inr (0, [.ref b, .int (nI u.1), .int cd, .int lk, .int pl])), (b, wInt (cy 0) 16 u.2)]) (fun (r_ : Int32) (u : Nat × (Nat → Int32)) => r_ = (lk - nI 100) ∧ u = ((trs (z, f) [13, 10]).1, (trs (z, f) [13, 10]).2))) 0 0 (va_A ([(g, .inr (1, [])), (a, .inr (0, [.ref b, .int (nI z), .int cd, .int lk, .int pl])), (b, wInt (cy 0) 16 f)]) sz) := by
  refine ent_i (cc := cX7_size) (maxL := 2) (by decide +kernel) rfl (Nat.le_of_ble_eq_true rfl) ?_
  intro p_ e_ s_ m_ args_ below_ meth_ c_ A_ Q_ ls B0 ret
  obtain ⟨CF, hA, hKN, hP, hD, hl⟩ := B0
  have hK := hKN.1
  obtain ⟨hx, hb, hml, hown, hts⟩ := id CF
  have hS : va_S A_ s_.heap s_.heap [] := va_S.rf
  have hl : lv_has ls 2 [(0, .ref g), (1, .ref a)] := hl
  refine lv_aload_n hx hb dX7_size_0 rfl (lv_at hl 1 rfl) ?_
  refine lv_bipush (v := nI 13) hx hb dX7_size_1 (by decide) ?_
  refine call_v (wr := [(g, .inr (1, []))]) (ws' := (fun u1 : Nat × (Nat → Int32) => [(g, .inr (1, [])), (a, .inr (0, [.ref b, .int (nI (u1.1)), .int cd, .int lk, .int pl])), (b, wInt (cy 0) 16 u1.2)])) (va_runV (As := [.int (nI 13)]) (rest := []) CF (k_X0_begin l D cy _ a b z cd lk pl f 13 (by first | exact hz | exact tr1_le hz _ | exact trs_le _ hz | exact tr1_le (tr1_le hz _) _ | exact trs_le _ (tr1_le hz _) | exact tr1_le (trs_le _ (tr1_le hz _)) _ | exact trs_le _ (tr1_le (tr1_le hz _) _) | exact trs_le _ (trs_le _ (tr1_le hz _)))) (cwV 1 hts gX7_size_X0_begin rfl rfl rfl (by decide +kernel) ⟨Nat.le_of_ble_eq_true rfl, Nat.le_of_ble_eq_true rfl⟩) (pre_V hKN hP hD [1, 2] rfl (by decide) 1 0 rfl rfl) rfl rfl hl.1 rfl (lv_room (Nat.le_of_ble_eq_true rfl)) dX7_size_3 ⟨Nat.le_of_ble_eq_true rfl, Nat.le_of_ble_eq_true rfl⟩) hS hA hP hD [1, 2] [0] [0, 1, 2] rfl rfl (by decide) (by decide) (fun _ => rfl) (by decide) (fun u1 H locs hw3 hP hD hS => ?_)
  replace hw3 := hw3.symm; subst hw3
  have hP : va_P D vwCl ([(g, .inr (1, [])), (a, .inr (0, [.ref b, .int (nI (((tr1 (z, f) 13).1))), .int cd, .int lk, .int pl])), (b, wInt (cy 0) 16 ((tr1 (z, f) 13).2))]) H := hP
  have hD : va_D A_ ([(g, .inr (1, [])), (a, .inr (0, [.ref b, .int (nI (((tr1 (z, f) 13).1))), .int cd, .int lk, .int pl])), (b, wInt (cy 0) 16 ((tr1 (z, f) 13).2))]) := hD
  refine lv_aload_n hx hb dX7_size_6 rfl (lv_at hl 0 rfl) ?_
  refine lv_aload_n hx hb dX7_size_7 rfl (lv_at hl 1 rfl) ?_
  refine call_i (wr := [(g, .inr (1, []))]) (ws' := (fun u4 : Nat × (Nat → Int32) => [(g, .inr (1, [])), (a, .inr (0, [.ref b, .int (nI (u4.1)), .int cd, .int lk, .int pl])), (b, wInt (cy 0) 16 u4.2)])) (va_runSU (As := [.ref a]) (rest := []) (hK.1 1 _ rfl).2 CF (k_X4_size l D cy _ g a b ((tr1 (z, f) 13).1) cd lk pl ((tr1 (z, f) 13).2) (by first | exact hz | exact tr1_le hz _ | exact trs_le _ hz | exact tr1_le (tr1_le hz _) _ | exact trs_le _ (tr1_le hz _) | exact tr1_le (trs_le _ (tr1_le hz _)) _ | exact trs_le _ (tr1_le (tr1_le hz _) _) | exact trs_le _ (trs_le _ (tr1_le hz _)))) (va_cwSU 1 hts gX7_size_X4_size_s15 rfl rfl rfl (by decide +kernel) ⟨Nat.le_of_ble_eq_true rfl, Nat.le_of_ble_eq_true rfl⟩) (pre_V hKN hP hD [1, 2] rfl (by decide) 0 1 rfl rfl) rfl rfl hl.1 rfl (lv_room (Nat.le_of_ble_eq_true rfl)) dX7_size_8 ⟨Nat.le_of_ble_eq_true rfl, Nat.le_of_ble_eq_true rfl⟩) hS hA hP hD [1, 2] [0] [0, 1, 2] rfl rfl (by decide) (by decide) (fun _ => rfl) (by decide) (fun r5 u4 H locs hw6 hP hD hS => ?_)
  obtain ⟨hw6a, hw6b⟩ := hw6
  replace hw6a := hw6a.symm; subst hw6a
  replace hw6b := hw6b.symm; subst hw6b
  have hP : va_P D vwCl ([(g, .inr (1, [])), (a, .inr (0, [.ref b, .int (nI (((trs (((tr1 (z, f) 13).1), ((tr1 (z, f) 13).2)) [10]).1))), .int cd, .int lk, .int pl])), (b, wInt (cy 0) 16 ((trs (((tr1 (z, f) 13).1), ((tr1 (z, f) 13).2)) [10]).2))]) H := hP
  have hD : va_D A_ ([(g, .inr (1, [])), (a, .inr (0, [.ref b, .int (nI (((trs (((tr1 (z, f) 13).1), ((tr1 (z, f) 13).2)) [10]).1))), .int cd, .int lk, .int pl])), (b, wInt (cy 0) 16 ((trs (((tr1 (z, f) 13).1), ((tr1 (z, f) 13).2)) [10]).2))]) := hD
  refine lv_bipush (v := nI 100) hx hb dX7_size_11 (by decide) ?_
  refine lv_isub hx hb dX7_size_13 ?_
  exact ret _ (((trs (((tr1 (z, f) 13).1), ((tr1 (z, f) 13).2)) [10]).1), ((trs (((tr1 (z, f) 13).1), ((tr1 (z, f) 13).2)) [10]).2)) _ _ _ _ dX7_size_14 ⟨rfl, rfl⟩ hP hD hS
set_option maxHeartbeats 4000000 in
set_option maxRecDepth 100000 in
theorem k_X1_sizeX1 (l : Launch) (D : va_G) (cy : Nat → ClassId) (sz : Nat) (g : Nat) (a : Nat) (b : Nat) (z : Nat) (cd : Int32) (lk : Int32) (pl : Int32) (f : Nat → Int32) (hz : z ≤ 16) : Met l yX1_size wsX1_size (rmD 3) (pPre D (TY cy) ([(g, .inr (1, [])), (a, .inr (0, [.ref b, .int (nI z), .int cd, .int lk, .int pl])), (b, wInt (cy 0) 16 f)]) sz [.ref g, .ref a]) (pI D (TY cy) ([(g, .inr (1, [])), (a, .inr (0, [.ref b, .int (nI z), .int cd, .int lk, .int pl])), (b, wInt (cy 0) 16 f)]) sz (fun u : Nat × (Nat → Int32) => [(g, .inr (1, [])), (a, .inr (0, [.ref b, .int (nI u.1), .int cd, .int lk, .int pl])), (b, wInt (cy 0) 16 u.2)]) (fun (r_ : Int32) (u : Nat × (Nat → Int32)) => r_ = (nI 2 * (lk - nI 100)) ∧ u = ((trs (z, f) [14, 13, 10]).1, (trs (z, f) [14, 13, 10]).2))) 0 0 (va_A ([(g, .inr (1, [])), (a, .inr (0, [.ref b, .int (nI z), .int cd, .int lk, .int pl])), (b, wInt (cy 0) 16 f)]) sz) := by
  refine ent_i (cc := cX1_size) (maxL := 2) (by decide +kernel) rfl (Nat.le_of_ble_eq_true rfl) ?_
  intro p_ e_ s_ m_ args_ below_ meth_ c_ A_ Q_ ls B0 ret
  obtain ⟨CF, hA, hKN, hP, hD, hl⟩ := B0
  have hK := hKN.1
  obtain ⟨hx, hb, hml, hown, hts⟩ := id CF
  have hS : va_S A_ s_.heap s_.heap [] := va_S.rf
  have hl : lv_has ls 2 [(0, .ref g), (1, .ref a)] := hl
  refine lv_aload_n hx hb dX1_size_0 rfl (lv_at hl 1 rfl) ?_
  refine lv_bipush (v := nI 14) hx hb dX1_size_1 (by decide) ?_
  refine call_v (wr := [(g, .inr (1, []))]) (ws' := (fun u1 : Nat × (Nat → Int32) => [(g, .inr (1, [])), (a, .inr (0, [.ref b, .int (nI (u1.1)), .int cd, .int lk, .int pl])), (b, wInt (cy 0) 16 u1.2)])) (va_runV (As := [.int (nI 14)]) (rest := []) CF (k_X0_begin l D cy _ a b z cd lk pl f 14 (by first | exact hz | exact tr1_le hz _ | exact trs_le _ hz | exact tr1_le (tr1_le hz _) _ | exact trs_le _ (tr1_le hz _) | exact tr1_le (trs_le _ (tr1_le hz _)) _ | exact trs_le _ (tr1_le (tr1_le hz _) _) | exact trs_le _ (trs_le _ (tr1_le hz _)))) (cwV 1 hts gX1_size_X0_begin rfl rfl rfl (by decide +kernel) ⟨Nat.le_of_ble_eq_true rfl, Nat.le_of_ble_eq_true rfl⟩) (pre_V hKN hP hD [1, 2] rfl (by decide) 1 0 rfl rfl) rfl rfl hl.1 rfl (lv_room (Nat.le_of_ble_eq_true rfl)) dX1_size_3 ⟨Nat.le_of_ble_eq_true rfl, Nat.le_of_ble_eq_true rfl⟩) hS hA hP hD [1, 2] [0] [0, 1, 2] rfl rfl (by decide) (by decide) (fun _ => rfl) (by decide) (fun u1 H locs hw3 hP hD hS => ?_)
  replace hw3 := hw3.symm; subst hw3
  have hP : va_P D vwCl ([(g, .inr (1, [])), (a, .inr (0, [.ref b, .int (nI (((tr1 (z, f) 14).1))), .int cd, .int lk, .int pl])), (b, wInt (cy 0) 16 ((tr1 (z, f) 14).2))]) H := hP
  have hD : va_D A_ ([(g, .inr (1, [])), (a, .inr (0, [.ref b, .int (nI (((tr1 (z, f) 14).1))), .int cd, .int lk, .int pl])), (b, wInt (cy 0) 16 ((tr1 (z, f) 14).2))]) := hD
  refine lv_iconst (v := nI 2) hx hb dX1_size_6 (by decide) ?_
  refine lv_aload_n hx hb dX1_size_7 rfl (lv_at hl 0 rfl) ?_
  refine lv_aload_n hx hb dX1_size_8 rfl (lv_at hl 1 rfl) ?_
  refine call_i (wr := []) (ws' := (fun u4 : Nat × (Nat → Int32) => [(g, .inr (1, [])), (a, .inr (0, [.ref b, .int (nI (u4.1)), .int cd, .int lk, .int pl])), (b, wInt (cy 0) 16 u4.2)])) (va_runSU (As := [.ref a]) (rest := [.int (nI 2)]) (hK.1 1 _ rfl).2 CF (k_X7_sizeX1 l D cy _ g a b ((tr1 (z, f) 14).1) cd lk pl ((tr1 (z, f) 14).2) (by first | exact hz | exact tr1_le hz _ | exact trs_le _ hz | exact tr1_le (tr1_le hz _) _ | exact trs_le _ (tr1_le hz _) | exact tr1_le (trs_le _ (tr1_le hz _)) _ | exact trs_le _ (tr1_le (tr1_le hz _) _) | exact trs_le _ (trs_le _ (tr1_le hz _)))) (va_cwSU 1 hts gX1_size_X7_size_s33 rfl rfl rfl (by decide +kernel) ⟨Nat.le_of_ble_eq_true rfl, Nat.le_of_ble_eq_true rfl⟩) (pre_V hKN hP hD [0, 1, 2] rfl (by decide) 0 1 rfl rfl) rfl rfl hl.1 rfl (lv_room (Nat.le_of_ble_eq_true rfl)) dX1_size_9 ⟨Nat.le_of_ble_eq_true rfl, Nat.le_of_ble_eq_true rfl⟩) hS hA hP hD [0, 1, 2] [] [0, 1, 2] rfl rfl (by decide) (by decide) (fun _ => rfl) (by decide) (fun r5 u4 H locs hw6 hP hD hS => ?_)
  obtain ⟨hw6a, hw6b⟩ := hw6
  replace hw6a := hw6a.symm; subst hw6a
  replace hw6b := hw6b.symm; subst hw6b
  have hP : va_P D vwCl ([(g, .inr (1, [])), (a, .inr (0, [.ref b, .int (nI (((trs (((tr1 (z, f) 14).1), ((tr1 (z, f) 14).2)) [13, 10]).1))), .int cd, .int lk, .int pl])), (b, wInt (cy 0) 16 ((trs (((tr1 (z, f) 14).1), ((tr1 (z, f) 14).2)) [13, 10]).2))]) H := hP
  have hD : va_D A_ ([(g, .inr (1, [])), (a, .inr (0, [.ref b, .int (nI (((trs (((tr1 (z, f) 14).1), ((tr1 (z, f) 14).2)) [13, 10]).1))), .int cd, .int lk, .int pl])), (b, wInt (cy 0) 16 ((trs (((tr1 (z, f) 14).1), ((tr1 (z, f) 14).2)) [13, 10]).2))]) := hD
  refine lv_imul hx hb dX1_size_12 ?_
  exact ret _ (((trs (((tr1 (z, f) 14).1), ((tr1 (z, f) 14).2)) [13, 10]).1), ((trs (((tr1 (z, f) 14).1), ((tr1 (z, f) 14).2)) [13, 10]).2)) _ _ _ _ dX1_size_13 ⟨rfl, rfl⟩ hP hD hS
set_option maxHeartbeats 4000000 in
set_option maxRecDepth 100000 in
theorem k_X7_markX7 (l : Launch) (D : va_G) (cy : Nat → ClassId) (sz : Nat) (g : Nat) (a : Nat) (b : Nat) (z : Nat) (cd : Int32) (lk : Int32) (pl : Int32) (f : Nat → Int32) (hz : z ≤ 16) : Met l yX7_mark wsX7_mark (rmD 4) (pPre D (TY cy) ([(g, .inr (6, [])), (a, .inr (0, [.ref b, .int (nI z), .int cd, .int lk, .int pl])), (b, wInt (cy 0) 16 f)]) sz [.ref g, .ref a]) (pI D (TY cy) ([(g, .inr (6, [])), (a, .inr (0, [.ref b, .int (nI z), .int cd, .int lk, .int pl])), (b, wInt (cy 0) 16 f)]) sz (fun u : Nat × (Nat → Int32) => [(g, .inr (6, [])), (a, .inr (0, [.ref b, .int (nI u.1), .int cd, .int lk, .int pl])), (b, wInt (cy 0) 16 u.2)]) (fun (r_ : Int32) (u : Nat × (Nat → Int32)) => r_ = (cd - (lk - nI 100)) ∧ u = ((trs (z, f) [23, 20, 13, 10]).1, (trs (z, f) [23, 20, 13, 10]).2))) 0 0 (va_A ([(g, .inr (6, [])), (a, .inr (0, [.ref b, .int (nI z), .int cd, .int lk, .int pl])), (b, wInt (cy 0) 16 f)]) sz) := by
  refine ent_i (cc := cX7_mark) (maxL := 2) (by decide +kernel) rfl (Nat.le_of_ble_eq_true rfl) ?_
  intro p_ e_ s_ m_ args_ below_ meth_ c_ A_ Q_ ls B0 ret
  obtain ⟨CF, hA, hKN, hP, hD, hl⟩ := B0
  have hK := hKN.1
  obtain ⟨hx, hb, hml, hown, hts⟩ := id CF
  have hS : va_S A_ s_.heap s_.heap [] := va_S.rf
  have hl : lv_has ls 2 [(0, .ref g), (1, .ref a)] := hl
  refine lv_aload_n hx hb dX7_mark_0 rfl (lv_at hl 1 rfl) ?_
  refine lv_bipush (v := nI 23) hx hb dX7_mark_1 (by decide) ?_
  refine call_v (wr := [(g, .inr (6, []))]) (ws' := (fun u1 : Nat × (Nat → Int32) => [(g, .inr (6, [])), (a, .inr (0, [.ref b, .int (nI (u1.1)), .int cd, .int lk, .int pl])), (b, wInt (cy 0) 16 u1.2)])) (va_runV (As := [.int (nI 23)]) (rest := []) CF (k_X0_begin l D cy _ a b z cd lk pl f 23 (by first | exact hz | exact tr1_le hz _ | exact trs_le _ hz | exact tr1_le (tr1_le hz _) _ | exact trs_le _ (tr1_le hz _) | exact tr1_le (trs_le _ (tr1_le hz _)) _ | exact trs_le _ (tr1_le (tr1_le hz _) _) | exact trs_le _ (trs_le _ (tr1_le hz _)))) (cwV 1 hts gX7_mark_X0_begin rfl rfl rfl (by decide +kernel) ⟨Nat.le_of_ble_eq_true rfl, Nat.le_of_ble_eq_true rfl⟩) (pre_V hKN hP hD [1, 2] rfl (by decide) 1 0 rfl rfl) rfl rfl hl.1 rfl (lv_room (Nat.le_of_ble_eq_true rfl)) dX7_mark_3 ⟨Nat.le_of_ble_eq_true rfl, Nat.le_of_ble_eq_true rfl⟩) hS hA hP hD [1, 2] [0] [0, 1, 2] rfl rfl (by decide) (by decide) (fun _ => rfl) (by decide) (fun u1 H locs hw3 hP hD hS => ?_)
  replace hw3 := hw3.symm; subst hw3
  have hP : va_P D vwCl ([(g, .inr (6, [])), (a, .inr (0, [.ref b, .int (nI (((tr1 (z, f) 23).1))), .int cd, .int lk, .int pl])), (b, wInt (cy 0) 16 ((tr1 (z, f) 23).2))]) H := hP
  have hD : va_D A_ ([(g, .inr (6, [])), (a, .inr (0, [.ref b, .int (nI (((tr1 (z, f) 23).1))), .int cd, .int lk, .int pl])), (b, wInt (cy 0) 16 ((tr1 (z, f) 23).2))]) := hD
  refine lv_aload_n hx hb dX7_mark_6 rfl (lv_at hl 0 rfl) ?_
  refine lv_aload_n hx hb dX7_mark_7 rfl (lv_at hl 1 rfl) ?_
  refine call_i (wr := [(g, .inr (6, []))]) (ws' := (fun u4 : Nat × (Nat → Int32) => [(g, .inr (6, [])), (a, .inr (0, [.ref b, .int (nI (u4.1)), .int cd, .int lk, .int pl])), (b, wInt (cy 0) 16 u4.2)])) (va_runSU (As := [.ref a]) (rest := []) (hK.1 6 _ rfl).2 CF (k_X4_mark l D cy _ g a b ((tr1 (z, f) 23).1) cd lk pl ((tr1 (z, f) 23).2) (by first | exact hz | exact tr1_le hz _ | exact trs_le _ hz | exact tr1_le (tr1_le hz _) _ | exact trs_le _ (tr1_le hz _) | exact tr1_le (trs_le _ (tr1_le hz _)) _ | exact trs_le _ (tr1_le (tr1_le hz _) _) | exact trs_le _ (trs_le _ (tr1_le hz _)))) (va_cwSU 1 hts gX7_mark_X4_mark_s19 rfl rfl rfl (by decide +kernel) ⟨Nat.le_of_ble_eq_true rfl, Nat.le_of_ble_eq_true rfl⟩) (pre_V hKN hP hD [1, 2] rfl (by decide) 0 6 rfl rfl) rfl rfl hl.1 rfl (lv_room (Nat.le_of_ble_eq_true rfl)) dX7_mark_8 ⟨Nat.le_of_ble_eq_true rfl, Nat.le_of_ble_eq_true rfl⟩) hS hA hP hD [1, 2] [0] [0, 1, 2] rfl rfl (by decide) (by decide) (fun _ => rfl) (by decide) (fun r5 u4 H locs hw6 hP hD hS => ?_)
  obtain ⟨hw6a, hw6b⟩ := hw6
  replace hw6a := hw6a.symm; subst hw6a
  replace hw6b := hw6b.symm; subst hw6b
  have hP : va_P D vwCl ([(g, .inr (6, [])), (a, .inr (0, [.ref b, .int (nI (((trs (((tr1 (z, f) 23).1), ((tr1 (z, f) 23).2)) [20]).1))), .int cd, .int lk, .int pl])), (b, wInt (cy 0) 16 ((trs (((tr1 (z, f) 23).1), ((tr1 (z, f) 23).2)) [20]).2))]) H := hP
  have hD : va_D A_ ([(g, .inr (6, [])), (a, .inr (0, [.ref b, .int (nI (((trs (((tr1 (z, f) 23).1), ((tr1 (z, f) 23).2)) [20]).1))), .int cd, .int lk, .int pl])), (b, wInt (cy 0) 16 ((trs (((tr1 (z, f) 23).1), ((tr1 (z, f) 23).2)) [20]).2))]) := hD
  refine lv_aload_n hx hb dX7_mark_11 rfl (lv_at hl 0 rfl) ?_
  refine lv_aload_n hx hb dX7_mark_12 rfl (lv_at hl 1 rfl) ?_
  refine call_i (wr := []) (ws' := (fun u7 : Nat × (Nat → Int32) => [(g, .inr (6, [])), (a, .inr (0, [.ref b, .int (nI (u7.1)), .int cd, .int lk, .int pl])), (b, wInt (cy 0) 16 u7.2)])) (va_runV (As := [.ref a]) (rest := [.int cd]) CF (k_X7_sizeX7 l D cy _ g a b ((trs (((tr1 (z, f) 23).1), ((tr1 (z, f) 23).2)) [20]).1) cd lk pl ((trs (((tr1 (z, f) 23).1), ((tr1 (z, f) 23).2)) [20]).2) (by first | exact hz | exact tr1_le hz _ | exact trs_le _ hz | exact tr1_le (tr1_le hz _) _ | exact trs_le _ (tr1_le hz _) | exact tr1_le (trs_le _ (tr1_le hz _)) _ | exact trs_le _ (tr1_le (tr1_le hz _) _) | exact trs_le _ (trs_le _ (tr1_le hz _)))) (cwV 1 hts gX7_mark_X7_size rfl rfl rfl (by decide +kernel) ⟨Nat.le_of_ble_eq_true rfl, Nat.le_of_ble_eq_true rfl⟩) (pre_V hKN hP hD [0, 1, 2] rfl (by decide) 0 6 rfl rfl) rfl rfl hl.1 rfl (lv_room (Nat.le_of_ble_eq_true rfl)) dX7_mark_13 ⟨Nat.le_of_ble_eq_true rfl, Nat.le_of_ble_eq_true rfl⟩) hS hA hP hD [0, 1, 2] [] [0, 1, 2] rfl rfl (by decide) (by decide) (fun _ => rfl) (by decide) (fun r8 u7 H locs hw9 hP hD hS => ?_)
  obtain ⟨hw9a, hw9b⟩ := hw9
  replace hw9a := hw9a.symm; subst hw9a
  replace hw9b := hw9b.symm; subst hw9b
  have hP : va_P D vwCl ([(g, .inr (6, [])), (a, .inr (0, [.ref b, .int (nI (((trs (((trs (((tr1 (z, f) 23).1), ((tr1 (z, f) 23).2)) [20]).1), ((trs (((tr1 (z, f) 23).1), ((tr1 (z, f) 23).2)) [20]).2)) [13, 10]).1))), .int cd, .int lk, .int pl])), (b, wInt (cy 0) 16 ((trs (((trs (((tr1 (z, f) 23).1), ((tr1 (z, f) 23).2)) [20]).1), ((trs (((tr1 (z, f) 23).1), ((tr1 (z, f) 23).2)) [20]).2)) [13, 10]).2))]) H := hP
  have hD : va_D A_ ([(g, .inr (6, [])), (a, .inr (0, [.ref b, .int (nI (((trs (((trs (((tr1 (z, f) 23).1), ((tr1 (z, f) 23).2)) [20]).1), ((trs (((tr1 (z, f) 23).1), ((tr1 (z, f) 23).2)) [20]).2)) [13, 10]).1))), .int cd, .int lk, .int pl])), (b, wInt (cy 0) 16 ((trs (((trs (((tr1 (z, f) 23).1), ((tr1 (z, f) 23).2)) [20]).1), ((trs (((tr1 (z, f) 23).1), ((tr1 (z, f) 23).2)) [20]).2)) [13, 10]).2))]) := hD
  refine lv_isub hx hb dX7_mark_16 ?_
  exact ret _ (((trs (((trs (((tr1 (z, f) 23).1), ((tr1 (z, f) 23).2)) [20]).1), ((trs (((tr1 (z, f) 23).1), ((tr1 (z, f) 23).2)) [20]).2)) [13, 10]).1), ((trs (((trs (((tr1 (z, f) 23).1), ((tr1 (z, f) 23).2)) [20]).1), ((trs (((tr1 (z, f) 23).1), ((tr1 (z, f) 23).2)) [20]).2)) [13, 10]).2)) _ _ _ _ dX7_mark_17 ⟨rfl, rfl⟩ hP hD hS
set_option maxHeartbeats 4000000 in
set_option maxRecDepth 100000 in
theorem k_X7_markX1 (l : Launch) (D : va_G) (cy : Nat → ClassId) (sz : Nat) (g : Nat) (a : Nat) (b : Nat) (z : Nat) (cd : Int32) (lk : Int32) (pl : Int32) (f : Nat → Int32) (hz : z ≤ 16) : Met l yX7_mark wsX7_mark (rmD 4) (pPre D (TY cy) ([(g, .inr (1, [])), (a, .inr (0, [.ref b, .int (nI z), .int cd, .int lk, .int pl])), (b, wInt (cy 0) 16 f)]) sz [.ref g, .ref a]) (pI D (TY cy) ([(g, .inr (1, [])), (a, .inr (0, [.ref b, .int (nI z), .int cd, .int lk, .int pl])), (b, wInt (cy 0) 16 f)]) sz (fun u : Nat × (Nat → Int32) => [(g, .inr (1, [])), (a, .inr (0, [.ref b, .int (nI u.1), .int cd, .int lk, .int pl])), (b, wInt (cy 0) 16 u.2)]) (fun (r_ : Int32) (u : Nat × (Nat → Int32)) => r_ = (cd - nI 2 * (lk - nI 100)) ∧ u = ((trs (z, f) [23, 20, 14, 13, 10]).1, (trs (z, f) [23, 20, 14, 13, 10]).2))) 0 0 (va_A ([(g, .inr (1, [])), (a, .inr (0, [.ref b, .int (nI z), .int cd, .int lk, .int pl])), (b, wInt (cy 0) 16 f)]) sz) := by
  refine ent_i (cc := cX7_mark) (maxL := 2) (by decide +kernel) rfl (Nat.le_of_ble_eq_true rfl) ?_
  intro p_ e_ s_ m_ args_ below_ meth_ c_ A_ Q_ ls B0 ret
  obtain ⟨CF, hA, hKN, hP, hD, hl⟩ := B0
  have hK := hKN.1
  obtain ⟨hx, hb, hml, hown, hts⟩ := id CF
  have hS : va_S A_ s_.heap s_.heap [] := va_S.rf
  have hl : lv_has ls 2 [(0, .ref g), (1, .ref a)] := hl
  have hcd_X7_size := (show Cond.code yX7_size cX7_size 2 (some .int) ∈ wsX7_mark from List.mem_of_getElem? (i := 27) rfl)
  refine lv_aload_n hx hb dX7_mark_0 rfl (lv_at hl 1 rfl) ?_
  refine lv_bipush (v := nI 23) hx hb dX7_mark_1 (by decide) ?_
  refine call_v (wr := [(g, .inr (1, []))]) (ws' := (fun u1 : Nat × (Nat → Int32) => [(g, .inr (1, [])), (a, .inr (0, [.ref b, .int (nI (u1.1)), .int cd, .int lk, .int pl])), (b, wInt (cy 0) 16 u1.2)])) (va_runV (As := [.int (nI 23)]) (rest := []) CF (k_X0_begin l D cy _ a b z cd lk pl f 23 (by first | exact hz | exact tr1_le hz _ | exact trs_le _ hz | exact tr1_le (tr1_le hz _) _ | exact trs_le _ (tr1_le hz _) | exact tr1_le (trs_le _ (tr1_le hz _)) _ | exact trs_le _ (tr1_le (tr1_le hz _) _) | exact trs_le _ (trs_le _ (tr1_le hz _)))) (cwV 1 hts gX7_mark_X0_begin rfl rfl rfl (by decide +kernel) ⟨Nat.le_of_ble_eq_true rfl, Nat.le_of_ble_eq_true rfl⟩) (pre_V hKN hP hD [1, 2] rfl (by decide) 1 0 rfl rfl) rfl rfl hl.1 rfl (lv_room (Nat.le_of_ble_eq_true rfl)) dX7_mark_3 ⟨Nat.le_of_ble_eq_true rfl, Nat.le_of_ble_eq_true rfl⟩) hS hA hP hD [1, 2] [0] [0, 1, 2] rfl rfl (by decide) (by decide) (fun _ => rfl) (by decide) (fun u1 H locs hw3 hP hD hS => ?_)
  replace hw3 := hw3.symm; subst hw3
  have hP : va_P D vwCl ([(g, .inr (1, [])), (a, .inr (0, [.ref b, .int (nI (((tr1 (z, f) 23).1))), .int cd, .int lk, .int pl])), (b, wInt (cy 0) 16 ((tr1 (z, f) 23).2))]) H := hP
  have hD : va_D A_ ([(g, .inr (1, [])), (a, .inr (0, [.ref b, .int (nI (((tr1 (z, f) 23).1))), .int cd, .int lk, .int pl])), (b, wInt (cy 0) 16 ((tr1 (z, f) 23).2))]) := hD
  refine lv_aload_n hx hb dX7_mark_6 rfl (lv_at hl 0 rfl) ?_
  refine lv_aload_n hx hb dX7_mark_7 rfl (lv_at hl 1 rfl) ?_
  refine call_i (wr := [(g, .inr (1, []))]) (ws' := (fun u4 : Nat × (Nat → Int32) => [(g, .inr (1, [])), (a, .inr (0, [.ref b, .int (nI (u4.1)), .int cd, .int lk, .int pl])), (b, wInt (cy 0) 16 u4.2)])) (va_runSU (As := [.ref a]) (rest := []) (hK.1 1 _ rfl).2 CF (k_X4_mark l D cy _ g a b ((tr1 (z, f) 23).1) cd lk pl ((tr1 (z, f) 23).2) (by first | exact hz | exact tr1_le hz _ | exact trs_le _ hz | exact tr1_le (tr1_le hz _) _ | exact trs_le _ (tr1_le hz _) | exact tr1_le (trs_le _ (tr1_le hz _)) _ | exact trs_le _ (tr1_le (tr1_le hz _) _) | exact trs_le _ (trs_le _ (tr1_le hz _)))) (va_cwSU 1 hts gX7_mark_X4_mark_s19 rfl rfl rfl (by decide +kernel) ⟨Nat.le_of_ble_eq_true rfl, Nat.le_of_ble_eq_true rfl⟩) (pre_V hKN hP hD [1, 2] rfl (by decide) 0 1 rfl rfl) rfl rfl hl.1 rfl (lv_room (Nat.le_of_ble_eq_true rfl)) dX7_mark_8 ⟨Nat.le_of_ble_eq_true rfl, Nat.le_of_ble_eq_true rfl⟩) hS hA hP hD [1, 2] [0] [0, 1, 2] rfl rfl (by decide) (by decide) (fun _ => rfl) (by decide) (fun r5 u4 H locs hw6 hP hD hS => ?_)
  obtain ⟨hw6a, hw6b⟩ := hw6
  replace hw6a := hw6a.symm; subst hw6a
  replace hw6b := hw6b.symm; subst hw6b
  have hP : va_P D vwCl ([(g, .inr (1, [])), (a, .inr (0, [.ref b, .int (nI (((trs (((tr1 (z, f) 23).1), ((tr1 (z, f) 23).2)) [20]).1))), .int cd, .int lk, .int pl])), (b, wInt (cy 0) 16 ((trs (((tr1 (z, f) 23).1), ((tr1 (z, f) 23).2)) [20]).2))]) H := hP
  have hD : va_D A_ ([(g, .inr (1, [])), (a, .inr (0, [.ref b, .int (nI (((trs (((tr1 (z, f) 23).1), ((tr1 (z, f) 23).2)) [20]).1))), .int cd, .int lk, .int pl])), (b, wInt (cy 0) 16 ((trs (((tr1 (z, f) 23).1), ((tr1 (z, f) 23).2)) [20]).2))]) := hD
  refine lv_aload_n hx hb dX7_mark_11 rfl (lv_at hl 0 rfl) ?_
  refine lv_aload_n hx hb dX7_mark_12 rfl (lv_at hl 1 rfl) ?_
  refine call_i (wr := []) (ws' := (fun u7 : Nat × (Nat → Int32) => [(g, .inr (1, [])), (a, .inr (0, [.ref b, .int (nI (u7.1)), .int cd, .int lk, .int pl])), (b, wInt (cy 0) 16 u7.2)])) (va_runU (As := [.ref a]) (rest := [.int cd]) CF (k_X1_sizeX1 l D cy _ g a b ((trs (((tr1 (z, f) 23).1), ((tr1 (z, f) 23).2)) [20]).1) cd lk pl ((trs (((tr1 (z, f) 23).1), ((tr1 (z, f) 23).2)) [20]).2) (by first | exact hz | exact tr1_le hz _ | exact trs_le _ hz | exact tr1_le (tr1_le hz _) _ | exact trs_le _ (tr1_le hz _) | exact tr1_le (trs_le _ (tr1_le hz _)) _ | exact trs_le _ (tr1_le (tr1_le hz _) _) | exact trs_le _ (trs_le _ (tr1_le hz _)))) (va_cwO 1 hts gX7_mark_X1_size_u22X1 rfl rfl rfl hcd_X7_size (by decide +kernel) ⟨Nat.le_of_ble_eq_true rfl, Nat.le_of_ble_eq_true rfl⟩) (pre_V hKN hP hD [0, 1, 2] rfl (by decide) 0 1 rfl rfl) rfl rfl hl.1 rfl (lv_room (Nat.le_of_ble_eq_true rfl)) dX7_mark_13 ⟨Nat.le_of_ble_eq_true rfl, Nat.le_of_ble_eq_true rfl⟩) hS hA hP hD [0, 1, 2] [] [0, 1, 2] rfl rfl (by decide) (by decide) (fun _ => rfl) (by decide) (fun r8 u7 H locs hw9 hP hD hS => ?_)
  obtain ⟨hw9a, hw9b⟩ := hw9
  replace hw9a := hw9a.symm; subst hw9a
  replace hw9b := hw9b.symm; subst hw9b
  have hP : va_P D vwCl ([(g, .inr (1, [])), (a, .inr (0, [.ref b, .int (nI (((trs (((trs (((tr1 (z, f) 23).1), ((tr1 (z, f) 23).2)) [20]).1), ((trs (((tr1 (z, f) 23).1), ((tr1 (z, f) 23).2)) [20]).2)) [14, 13, 10]).1))), .int cd, .int lk, .int pl])), (b, wInt (cy 0) 16 ((trs (((trs (((tr1 (z, f) 23).1), ((tr1 (z, f) 23).2)) [20]).1), ((trs (((tr1 (z, f) 23).1), ((tr1 (z, f) 23).2)) [20]).2)) [14, 13, 10]).2))]) H := hP
  have hD : va_D A_ ([(g, .inr (1, [])), (a, .inr (0, [.ref b, .int (nI (((trs (((trs (((tr1 (z, f) 23).1), ((tr1 (z, f) 23).2)) [20]).1), ((trs (((tr1 (z, f) 23).1), ((tr1 (z, f) 23).2)) [20]).2)) [14, 13, 10]).1))), .int cd, .int lk, .int pl])), (b, wInt (cy 0) 16 ((trs (((trs (((tr1 (z, f) 23).1), ((tr1 (z, f) 23).2)) [20]).1), ((trs (((tr1 (z, f) 23).1), ((tr1 (z, f) 23).2)) [20]).2)) [14, 13, 10]).2))]) := hD
  refine lv_isub hx hb dX7_mark_16 ?_
  exact ret _ (((trs (((trs (((tr1 (z, f) 23).1), ((tr1 (z, f) 23).2)) [20]).1), ((trs (((tr1 (z, f) 23).1), ((tr1 (z, f) 23).2)) [20]).2)) [14, 13, 10]).1), ((trs (((trs (((tr1 (z, f) 23).1), ((tr1 (z, f) 23).2)) [20]).1), ((trs (((tr1 (z, f) 23).1), ((tr1 (z, f) 23).2)) [20]).2)) [14, 13, 10]).2)) _ _ _ _ dX7_mark_17 ⟨rfl, rfl⟩ hP hD hS
set_option maxHeartbeats 4000000 in
set_option maxRecDepth 100000 in
theorem k_X4_isOneX3 (l : Launch) (D : va_G) (cy : Nat → ClassId) (sz : Nat) (g : Nat) (x : Int32)  : Met l yX4_isOne wsX4_isOne (rmD 0) (pPre D (TY cy) ([(g, .inr (3, []))]) sz [.ref g, .int x]) (pI D (TY cy) ([(g, .inr (3, []))]) sz (fun _ : Unit => [(g, .inr (3, []))]) (fun (r_ : Int32) (_ : Unit) => r_ = bI (x = 0 ∨ nI 1 = x ∨ parF (nI 1) = x))) 0 0 (va_A ([(g, .inr (3, []))]) sz) := by
  refine ent_z (cc := cX4_isOne) (maxL := 2) (by decide +kernel) rfl (Nat.le_of_ble_eq_true rfl) ?_
  intro p_ e_ s_ m_ args_ below_ meth_ c_ A_ Q_ ls B0 ret
  obtain ⟨CF, hA, hKN, hP, hD, hl⟩ := B0
  have hK := hKN.1
  obtain ⟨hx, hb, hml, hown, hts⟩ := id CF
  have hS : va_S A_ s_.heap s_.heap [] := va_S.rf
  have hl : lv_has ls 2 [(0, .ref g), (1, .int x)] := hl
  have hi9 := hts (.classLink RX4 9 "DrawerCards$Free") (by decide +kernel)
  have hi11 := hts (.classLink RX4 11 "DrawerCards$Old") (by decide +kernel)
  have hi13 := hts (.classLink RX4 13 "DrawerCards$Wild") (by decide +kernel)
  have hi15 := hts (.classLink RX4 15 "DrawerCards$Rod") (by decide +kernel)
  have hi17 := hts (.classLink RX4 17 "DrawerCards$Blank") (by decide +kernel)
  refine lv_iload_n hx hb dX4_isOne_0 rfl (lv_at hl 1 rfl) ?_
  rcases sw_cases x 0 6 with c1 | ⟨c1k, c1l, c1⟩
  · have c1n := fun (j : Nat) (hj : (j : Int) ≤ 5) (hj2 : j < 100000) => sw_ne c1 j hj hj2
    refine lv_tableOut (tgt := 67) hx hb dX4_isOne_1 c1 (by decide) ?_
    refine lv_iconst (v := nI 0) hx hb dX4_isOne_67 (by decide) ?_
    exact ret _ () _ _ _ _ dX4_isOne_68 rfl (by rw [bI_f (fun z => by rcases z with z | z | z; exact c1n 0 (by decide) (by decide) z; exact c1n 1 (by decide) (by decide) z.symm; exact c1n 0 (by decide) (by decide) z.symm)]; rfl) hP hD hS
  · rcases (show c1k = 0 ∨ c1k = 1 ∨ c1k = 2 ∨ c1k = 3 ∨ c1k = 4 ∨ c1k = 5 by omega) with c1e | c1e | c1e | c1e | c1e | c1e
    · subst c1e
      refine lv_tableIn (off := 39) (tgt := 40) hx hb dX4_isOne_1 (by omega) (by omega) (sw_at c1 rfl) (by decide) ?_
      have c1q := sw_eq c1 (by decide)
      refine lv_iconst (v := nI 1) hx hb dX4_isOne_40 (by decide) ?_
      exact ret _ () _ _ _ _ dX4_isOne_41 rfl (by rw [c1q]; decide) hP hD hS
    · subst c1e
      refine lv_tableIn (off := 41) (tgt := 42) hx hb dX4_isOne_1 (by omega) (by omega) (sw_at c1 rfl) (by decide) ?_
      have c1q := sw_eq c1 (by decide)
      refine lv_aload_n hx hb dX4_isOne_42 rfl (lv_at hl 0 rfl) ?_
      refine va_instS hx hb hown hi9 (hK.1 3 _ rfl).2 (va_recv hK hP (ci := 3) (q0 := 0) rfl rfl) dX4_isOne_43 ?_
      exact ret _ () _ _ _ _ dX4_isOne_46 rfl (by rw [c1q]; decide) hP hD hS
    · subst c1e
      refine lv_tableIn (off := 46) (tgt := 47) hx hb dX4_isOne_1 (by omega) (by omega) (sw_at c1 rfl) (by decide) ?_
      have c1q := sw_eq c1 (by decide)
      refine lv_aload_n hx hb dX4_isOne_47 rfl (lv_at hl 0 rfl) ?_
      refine va_instNo (C := RX3) hx hb hown hi11 (hKN.2.2 ("DrawerCards$Free", "DrawerCards$Old") (by decide +kernel)) (va_recv hK hP (ci := 3) (q0 := 0) rfl rfl) dX4_isOne_48 ?_
      exact ret _ () _ _ _ _ dX4_isOne_51 rfl (by rw [c1q]; decide) hP hD hS
    · subst c1e
      refine lv_tableIn (off := 51) (tgt := 52) hx hb dX4_isOne_1 (by omega) (by omega) (sw_at c1 rfl) (by decide) ?_
      have c1q := sw_eq c1 (by decide)
      refine lv_aload_n hx hb dX4_isOne_52 rfl (lv_at hl 0 rfl) ?_
      refine va_instNo (C := RX3) hx hb hown hi13 (hKN.2.2 ("DrawerCards$Free", "DrawerCards$Wild") (by decide +kernel)) (va_recv hK hP (ci := 3) (q0 := 0) rfl rfl) dX4_isOne_53 ?_
      exact ret _ () _ _ _ _ dX4_isOne_56 rfl (by rw [c1q]; decide) hP hD hS
    · subst c1e
      refine lv_tableIn (off := 56) (tgt := 57) hx hb dX4_isOne_1 (by omega) (by omega) (sw_at c1 rfl) (by decide) ?_
      have c1q := sw_eq c1 (by decide)
      refine lv_aload_n hx hb dX4_isOne_57 rfl (lv_at hl 0 rfl) ?_
      refine va_instNo (C := RX3) hx hb hown hi15 (hKN.2.2 ("DrawerCards$Free", "DrawerCards$Rod") (by decide +kernel)) (va_recv hK hP (ci := 3) (q0 := 0) rfl rfl) dX4_isOne_58 ?_
      exact ret _ () _ _ _ _ dX4_isOne_61 rfl (by rw [c1q]; decide) hP hD hS
    · subst c1e
      refine lv_tableIn (off := 61) (tgt := 62) hx hb dX4_isOne_1 (by omega) (by omega) (sw_at c1 rfl) (by decide) ?_
      have c1q := sw_eq c1 (by decide)
      refine lv_aload_n hx hb dX4_isOne_62 rfl (lv_at hl 0 rfl) ?_
      refine va_instNo (C := RX3) hx hb hown hi17 (hKN.2.2 ("DrawerCards$Free", "DrawerCards$Blank") (by decide +kernel)) (va_recv hK hP (ci := 3) (q0 := 0) rfl rfl) dX4_isOne_63 ?_
      exact ret _ () _ _ _ _ dX4_isOne_66 rfl (by rw [c1q]; decide) hP hD hS
set_option maxHeartbeats 4000000 in
set_option maxRecDepth 100000 in
theorem k_X4_isOneX5 (l : Launch) (D : va_G) (cy : Nat → ClassId) (sz : Nat) (g : Nat) (x : Int32)  : Met l yX4_isOne wsX4_isOne (rmD 0) (pPre D (TY cy) ([(g, .inr (4, []))]) sz [.ref g, .int x]) (pI D (TY cy) ([(g, .inr (4, []))]) sz (fun _ : Unit => [(g, .inr (4, []))]) (fun (r_ : Int32) (_ : Unit) => r_ = bI (x = 0 ∨ nI 2 = x ∨ parF (nI 2) = x))) 0 0 (va_A ([(g, .inr (4, []))]) sz) := by
  refine ent_z (cc := cX4_isOne) (maxL := 2) (by decide +kernel) rfl (Nat.le_of_ble_eq_true rfl) ?_
  intro p_ e_ s_ m_ args_ below_ meth_ c_ A_ Q_ ls B0 ret
  obtain ⟨CF, hA, hKN, hP, hD, hl⟩ := B0
  have hK := hKN.1
  obtain ⟨hx, hb, hml, hown, hts⟩ := id CF
  have hS : va_S A_ s_.heap s_.heap [] := va_S.rf
  have hl : lv_has ls 2 [(0, .ref g), (1, .int x)] := hl
  have hi9 := hts (.classLink RX4 9 "DrawerCards$Free") (by decide +kernel)
  have hi11 := hts (.classLink RX4 11 "DrawerCards$Old") (by decide +kernel)
  have hi13 := hts (.classLink RX4 13 "DrawerCards$Wild") (by decide +kernel)
  have hi15 := hts (.classLink RX4 15 "DrawerCards$Rod") (by decide +kernel)
  have hi17 := hts (.classLink RX4 17 "DrawerCards$Blank") (by decide +kernel)
  refine lv_iload_n hx hb dX4_isOne_0 rfl (lv_at hl 1 rfl) ?_
  rcases sw_cases x 0 6 with c1 | ⟨c1k, c1l, c1⟩
  · have c1n := fun (j : Nat) (hj : (j : Int) ≤ 5) (hj2 : j < 100000) => sw_ne c1 j hj hj2
    refine lv_tableOut (tgt := 67) hx hb dX4_isOne_1 c1 (by decide) ?_
    refine lv_iconst (v := nI 0) hx hb dX4_isOne_67 (by decide) ?_
    exact ret _ () _ _ _ _ dX4_isOne_68 rfl (by rw [bI_f (fun z => by rcases z with z | z | z; exact c1n 0 (by decide) (by decide) z; exact c1n 2 (by decide) (by decide) z.symm; exact c1n 1 (by decide) (by decide) z.symm)]; rfl) hP hD hS
  · rcases (show c1k = 0 ∨ c1k = 1 ∨ c1k = 2 ∨ c1k = 3 ∨ c1k = 4 ∨ c1k = 5 by omega) with c1e | c1e | c1e | c1e | c1e | c1e
    · subst c1e
      refine lv_tableIn (off := 39) (tgt := 40) hx hb dX4_isOne_1 (by omega) (by omega) (sw_at c1 rfl) (by decide) ?_
      have c1q := sw_eq c1 (by decide)
      refine lv_iconst (v := nI 1) hx hb dX4_isOne_40 (by decide) ?_
      exact ret _ () _ _ _ _ dX4_isOne_41 rfl (by rw [c1q]; decide) hP hD hS
    · subst c1e
      refine lv_tableIn (off := 41) (tgt := 42) hx hb dX4_isOne_1 (by omega) (by omega) (sw_at c1 rfl) (by decide) ?_
      have c1q := sw_eq c1 (by decide)
      refine lv_aload_n hx hb dX4_isOne_42 rfl (lv_at hl 0 rfl) ?_
      refine va_instY (C := RX5) hx hb hown hi9 (hKN.2.1 _ (by decide +kernel)) (va_recv hK hP (ci := 4) (q0 := 0) rfl rfl) dX4_isOne_43 ?_
      exact ret _ () _ _ _ _ dX4_isOne_46 rfl (by rw [c1q]; decide) hP hD hS
    · subst c1e
      refine lv_tableIn (off := 46) (tgt := 47) hx hb dX4_isOne_1 (by omega) (by omega) (sw_at c1 rfl) (by decide) ?_
      have c1q := sw_eq c1 (by decide)
      refine lv_aload_n hx hb dX4_isOne_47 rfl (lv_at hl 0 rfl) ?_
      refine va_instS hx hb hown hi11 (hK.1 4 _ rfl).2 (va_recv hK hP (ci := 4) (q0 := 0) rfl rfl) dX4_isOne_48 ?_
      exact ret _ () _ _ _ _ dX4_isOne_51 rfl (by rw [c1q]; decide) hP hD hS
    · subst c1e
      refine lv_tableIn (off := 51) (tgt := 52) hx hb dX4_isOne_1 (by omega) (by omega) (sw_at c1 rfl) (by decide) ?_
      have c1q := sw_eq c1 (by decide)
      refine lv_aload_n hx hb dX4_isOne_52 rfl (lv_at hl 0 rfl) ?_
      refine va_instNo (C := RX5) hx hb hown hi13 (hKN.2.2 ("DrawerCards$Old", "DrawerCards$Wild") (by decide +kernel)) (va_recv hK hP (ci := 4) (q0 := 0) rfl rfl) dX4_isOne_53 ?_
      exact ret _ () _ _ _ _ dX4_isOne_56 rfl (by rw [c1q]; decide) hP hD hS
    · subst c1e
      refine lv_tableIn (off := 56) (tgt := 57) hx hb dX4_isOne_1 (by omega) (by omega) (sw_at c1 rfl) (by decide) ?_
      have c1q := sw_eq c1 (by decide)
      refine lv_aload_n hx hb dX4_isOne_57 rfl (lv_at hl 0 rfl) ?_
      refine va_instNo (C := RX5) hx hb hown hi15 (hKN.2.2 ("DrawerCards$Old", "DrawerCards$Rod") (by decide +kernel)) (va_recv hK hP (ci := 4) (q0 := 0) rfl rfl) dX4_isOne_58 ?_
      exact ret _ () _ _ _ _ dX4_isOne_61 rfl (by rw [c1q]; decide) hP hD hS
    · subst c1e
      refine lv_tableIn (off := 61) (tgt := 62) hx hb dX4_isOne_1 (by omega) (by omega) (sw_at c1 rfl) (by decide) ?_
      have c1q := sw_eq c1 (by decide)
      refine lv_aload_n hx hb dX4_isOne_62 rfl (lv_at hl 0 rfl) ?_
      refine va_instNo (C := RX5) hx hb hown hi17 (hKN.2.2 ("DrawerCards$Old", "DrawerCards$Blank") (by decide +kernel)) (va_recv hK hP (ci := 4) (q0 := 0) rfl rfl) dX4_isOne_63 ?_
      exact ret _ () _ _ _ _ dX4_isOne_66 rfl (by rw [c1q]; decide) hP hD hS
set_option maxHeartbeats 4000000 in
set_option maxRecDepth 100000 in
theorem k_X4_isOneX10 (l : Launch) (D : va_G) (cy : Nat → ClassId) (sz : Nat) (g : Nat) (x : Int32)  : Met l yX4_isOne wsX4_isOne (rmD 0) (pPre D (TY cy) ([(g, .inr (9, []))]) sz [.ref g, .int x]) (pI D (TY cy) ([(g, .inr (9, []))]) sz (fun _ : Unit => [(g, .inr (9, []))]) (fun (r_ : Int32) (_ : Unit) => r_ = bI (x = 0 ∨ nI 3 = x ∨ parF (nI 3) = x))) 0 0 (va_A ([(g, .inr (9, []))]) sz) := by
  refine ent_z (cc := cX4_isOne) (maxL := 2) (by decide +kernel) rfl (Nat.le_of_ble_eq_true rfl) ?_
  intro p_ e_ s_ m_ args_ below_ meth_ c_ A_ Q_ ls B0 ret
  obtain ⟨CF, hA, hKN, hP, hD, hl⟩ := B0
  have hK := hKN.1
  obtain ⟨hx, hb, hml, hown, hts⟩ := id CF
  have hS : va_S A_ s_.heap s_.heap [] := va_S.rf
  have hl : lv_has ls 2 [(0, .ref g), (1, .int x)] := hl
  have hi9 := hts (.classLink RX4 9 "DrawerCards$Free") (by decide +kernel)
  have hi11 := hts (.classLink RX4 11 "DrawerCards$Old") (by decide +kernel)
  have hi13 := hts (.classLink RX4 13 "DrawerCards$Wild") (by decide +kernel)
  have hi15 := hts (.classLink RX4 15 "DrawerCards$Rod") (by decide +kernel)
  have hi17 := hts (.classLink RX4 17 "DrawerCards$Blank") (by decide +kernel)
  refine lv_iload_n hx hb dX4_isOne_0 rfl (lv_at hl 1 rfl) ?_
  rcases sw_cases x 0 6 with c1 | ⟨c1k, c1l, c1⟩
  · have c1n := fun (j : Nat) (hj : (j : Int) ≤ 5) (hj2 : j < 100000) => sw_ne c1 j hj hj2
    refine lv_tableOut (tgt := 67) hx hb dX4_isOne_1 c1 (by decide) ?_
    refine lv_iconst (v := nI 0) hx hb dX4_isOne_67 (by decide) ?_
    exact ret _ () _ _ _ _ dX4_isOne_68 rfl (by rw [bI_f (fun z => by rcases z with z | z | z; exact c1n 0 (by decide) (by decide) z; exact c1n 3 (by decide) (by decide) z.symm; exact c1n 1 (by decide) (by decide) z.symm)]; rfl) hP hD hS
  · rcases (show c1k = 0 ∨ c1k = 1 ∨ c1k = 2 ∨ c1k = 3 ∨ c1k = 4 ∨ c1k = 5 by omega) with c1e | c1e | c1e | c1e | c1e | c1e
    · subst c1e
      refine lv_tableIn (off := 39) (tgt := 40) hx hb dX4_isOne_1 (by omega) (by omega) (sw_at c1 rfl) (by decide) ?_
      have c1q := sw_eq c1 (by decide)
      refine lv_iconst (v := nI 1) hx hb dX4_isOne_40 (by decide) ?_
      exact ret _ () _ _ _ _ dX4_isOne_41 rfl (by rw [c1q]; decide) hP hD hS
    · subst c1e
      refine lv_tableIn (off := 41) (tgt := 42) hx hb dX4_isOne_1 (by omega) (by omega) (sw_at c1 rfl) (by decide) ?_
      have c1q := sw_eq c1 (by decide)
      refine lv_aload_n hx hb dX4_isOne_42 rfl (lv_at hl 0 rfl) ?_
      refine va_instY (C := RX10) hx hb hown hi9 (hKN.2.1 _ (by decide +kernel)) (va_recv hK hP (ci := 9) (q0 := 0) rfl rfl) dX4_isOne_43 ?_
      exact ret _ () _ _ _ _ dX4_isOne_46 rfl (by rw [c1q]; decide) hP hD hS
    · subst c1e
      refine lv_tableIn (off := 46) (tgt := 47) hx hb dX4_isOne_1 (by omega) (by omega) (sw_at c1 rfl) (by decide) ?_
      have c1q := sw_eq c1 (by decide)
      refine lv_aload_n hx hb dX4_isOne_47 rfl (lv_at hl 0 rfl) ?_
      refine va_instNo (C := RX10) hx hb hown hi11 (hKN.2.2 ("DrawerCards$Wild", "DrawerCards$Old") (by decide +kernel)) (va_recv hK hP (ci := 9) (q0 := 0) rfl rfl) dX4_isOne_48 ?_
      exact ret _ () _ _ _ _ dX4_isOne_51 rfl (by rw [c1q]; decide) hP hD hS
    · subst c1e
      refine lv_tableIn (off := 51) (tgt := 52) hx hb dX4_isOne_1 (by omega) (by omega) (sw_at c1 rfl) (by decide) ?_
      have c1q := sw_eq c1 (by decide)
      refine lv_aload_n hx hb dX4_isOne_52 rfl (lv_at hl 0 rfl) ?_
      refine va_instS hx hb hown hi13 (hK.1 9 _ rfl).2 (va_recv hK hP (ci := 9) (q0 := 0) rfl rfl) dX4_isOne_53 ?_
      exact ret _ () _ _ _ _ dX4_isOne_56 rfl (by rw [c1q]; decide) hP hD hS
    · subst c1e
      refine lv_tableIn (off := 56) (tgt := 57) hx hb dX4_isOne_1 (by omega) (by omega) (sw_at c1 rfl) (by decide) ?_
      have c1q := sw_eq c1 (by decide)
      refine lv_aload_n hx hb dX4_isOne_57 rfl (lv_at hl 0 rfl) ?_
      refine va_instNo (C := RX10) hx hb hown hi15 (hKN.2.2 ("DrawerCards$Wild", "DrawerCards$Rod") (by decide +kernel)) (va_recv hK hP (ci := 9) (q0 := 0) rfl rfl) dX4_isOne_58 ?_
      exact ret _ () _ _ _ _ dX4_isOne_61 rfl (by rw [c1q]; decide) hP hD hS
    · subst c1e
      refine lv_tableIn (off := 61) (tgt := 62) hx hb dX4_isOne_1 (by omega) (by omega) (sw_at c1 rfl) (by decide) ?_
      have c1q := sw_eq c1 (by decide)
      refine lv_aload_n hx hb dX4_isOne_62 rfl (lv_at hl 0 rfl) ?_
      refine va_instNo (C := RX10) hx hb hown hi17 (hKN.2.2 ("DrawerCards$Wild", "DrawerCards$Blank") (by decide +kernel)) (va_recv hK hP (ci := 9) (q0 := 0) rfl rfl) dX4_isOne_63 ?_
      exact ret _ () _ _ _ _ dX4_isOne_66 rfl (by rw [c1q]; decide) hP hD hS
set_option maxHeartbeats 4000000 in
set_option maxRecDepth 100000 in
theorem k_X4_isOneX7 (l : Launch) (D : va_G) (cy : Nat → ClassId) (sz : Nat) (g : Nat) (x : Int32)  : Met l yX4_isOne wsX4_isOne (rmD 0) (pPre D (TY cy) ([(g, .inr (6, []))]) sz [.ref g, .int x]) (pI D (TY cy) ([(g, .inr (6, []))]) sz (fun _ : Unit => [(g, .inr (6, []))]) (fun (r_ : Int32) (_ : Unit) => r_ = bI (x = 0 ∨ nI 4 = x ∨ parF (nI 4) = x))) 0 0 (va_A ([(g, .inr (6, []))]) sz) := by
  refine ent_z (cc := cX4_isOne) (maxL := 2) (by decide +kernel) rfl (Nat.le_of_ble_eq_true rfl) ?_
  intro p_ e_ s_ m_ args_ below_ meth_ c_ A_ Q_ ls B0 ret
  obtain ⟨CF, hA, hKN, hP, hD, hl⟩ := B0
  have hK := hKN.1
  obtain ⟨hx, hb, hml, hown, hts⟩ := id CF
  have hS : va_S A_ s_.heap s_.heap [] := va_S.rf
  have hl : lv_has ls 2 [(0, .ref g), (1, .int x)] := hl
  have hi9 := hts (.classLink RX4 9 "DrawerCards$Free") (by decide +kernel)
  have hi11 := hts (.classLink RX4 11 "DrawerCards$Old") (by decide +kernel)
  have hi13 := hts (.classLink RX4 13 "DrawerCards$Wild") (by decide +kernel)
  have hi15 := hts (.classLink RX4 15 "DrawerCards$Rod") (by decide +kernel)
  have hi17 := hts (.classLink RX4 17 "DrawerCards$Blank") (by decide +kernel)
  refine lv_iload_n hx hb dX4_isOne_0 rfl (lv_at hl 1 rfl) ?_
  rcases sw_cases x 0 6 with c1 | ⟨c1k, c1l, c1⟩
  · have c1n := fun (j : Nat) (hj : (j : Int) ≤ 5) (hj2 : j < 100000) => sw_ne c1 j hj hj2
    refine lv_tableOut (tgt := 67) hx hb dX4_isOne_1 c1 (by decide) ?_
    refine lv_iconst (v := nI 0) hx hb dX4_isOne_67 (by decide) ?_
    exact ret _ () _ _ _ _ dX4_isOne_68 rfl (by rw [bI_f (fun z => by rcases z with z | z | z; exact c1n 0 (by decide) (by decide) z; exact c1n 4 (by decide) (by decide) z.symm; exact c1n 0 (by decide) (by decide) z.symm)]; rfl) hP hD hS
  · rcases (show c1k = 0 ∨ c1k = 1 ∨ c1k = 2 ∨ c1k = 3 ∨ c1k = 4 ∨ c1k = 5 by omega) with c1e | c1e | c1e | c1e | c1e | c1e
    · subst c1e
      refine lv_tableIn (off := 39) (tgt := 40) hx hb dX4_isOne_1 (by omega) (by omega) (sw_at c1 rfl) (by decide) ?_
      have c1q := sw_eq c1 (by decide)
      refine lv_iconst (v := nI 1) hx hb dX4_isOne_40 (by decide) ?_
      exact ret _ () _ _ _ _ dX4_isOne_41 rfl (by rw [c1q]; decide) hP hD hS
    · subst c1e
      refine lv_tableIn (off := 41) (tgt := 42) hx hb dX4_isOne_1 (by omega) (by omega) (sw_at c1 rfl) (by decide) ?_
      have c1q := sw_eq c1 (by decide)
      refine lv_aload_n hx hb dX4_isOne_42 rfl (lv_at hl 0 rfl) ?_
      refine va_instNo (C := RX7) hx hb hown hi9 (hKN.2.2 ("DrawerCards$Rod", "DrawerCards$Free") (by decide +kernel)) (va_recv hK hP (ci := 6) (q0 := 0) rfl rfl) dX4_isOne_43 ?_
      exact ret _ () _ _ _ _ dX4_isOne_46 rfl (by rw [c1q]; decide) hP hD hS
    · subst c1e
      refine lv_tableIn (off := 46) (tgt := 47) hx hb dX4_isOne_1 (by omega) (by omega) (sw_at c1 rfl) (by decide) ?_
      have c1q := sw_eq c1 (by decide)
      refine lv_aload_n hx hb dX4_isOne_47 rfl (lv_at hl 0 rfl) ?_
      refine va_instNo (C := RX7) hx hb hown hi11 (hKN.2.2 ("DrawerCards$Rod", "DrawerCards$Old") (by decide +kernel)) (va_recv hK hP (ci := 6) (q0 := 0) rfl rfl) dX4_isOne_48 ?_
      exact ret _ () _ _ _ _ dX4_isOne_51 rfl (by rw [c1q]; decide) hP hD hS
    · subst c1e
      refine lv_tableIn (off := 51) (tgt := 52) hx hb dX4_isOne_1 (by omega) (by omega) (sw_at c1 rfl) (by decide) ?_
      have c1q := sw_eq c1 (by decide)
      refine lv_aload_n hx hb dX4_isOne_52 rfl (lv_at hl 0 rfl) ?_
      refine va_instNo (C := RX7) hx hb hown hi13 (hKN.2.2 ("DrawerCards$Rod", "DrawerCards$Wild") (by decide +kernel)) (va_recv hK hP (ci := 6) (q0 := 0) rfl rfl) dX4_isOne_53 ?_
      exact ret _ () _ _ _ _ dX4_isOne_56 rfl (by rw [c1q]; decide) hP hD hS
    · subst c1e
      refine lv_tableIn (off := 56) (tgt := 57) hx hb dX4_isOne_1 (by omega) (by omega) (sw_at c1 rfl) (by decide) ?_
      have c1q := sw_eq c1 (by decide)
      refine lv_aload_n hx hb dX4_isOne_57 rfl (lv_at hl 0 rfl) ?_
      refine va_instS hx hb hown hi15 (hK.1 6 _ rfl).2 (va_recv hK hP (ci := 6) (q0 := 0) rfl rfl) dX4_isOne_58 ?_
      exact ret _ () _ _ _ _ dX4_isOne_61 rfl (by rw [c1q]; decide) hP hD hS
    · subst c1e
      refine lv_tableIn (off := 61) (tgt := 62) hx hb dX4_isOne_1 (by omega) (by omega) (sw_at c1 rfl) (by decide) ?_
      have c1q := sw_eq c1 (by decide)
      refine lv_aload_n hx hb dX4_isOne_62 rfl (lv_at hl 0 rfl) ?_
      refine va_instNo (C := RX7) hx hb hown hi17 (hKN.2.2 ("DrawerCards$Rod", "DrawerCards$Blank") (by decide +kernel)) (va_recv hK hP (ci := 6) (q0 := 0) rfl rfl) dX4_isOne_63 ?_
      exact ret _ () _ _ _ _ dX4_isOne_66 rfl (by rw [c1q]; decide) hP hD hS
set_option maxHeartbeats 4000000 in
set_option maxRecDepth 100000 in
theorem k_X4_isOneX1 (l : Launch) (D : va_G) (cy : Nat → ClassId) (sz : Nat) (g : Nat) (x : Int32)  : Met l yX4_isOne wsX4_isOne (rmD 0) (pPre D (TY cy) ([(g, .inr (1, []))]) sz [.ref g, .int x]) (pI D (TY cy) ([(g, .inr (1, []))]) sz (fun _ : Unit => [(g, .inr (1, []))]) (fun (r_ : Int32) (_ : Unit) => r_ = bI (x = 0 ∨ nI 5 = x ∨ parF (nI 5) = x))) 0 0 (va_A ([(g, .inr (1, []))]) sz) := by
  refine ent_z (cc := cX4_isOne) (maxL := 2) (by decide +kernel) rfl (Nat.le_of_ble_eq_true rfl) ?_
  intro p_ e_ s_ m_ args_ below_ meth_ c_ A_ Q_ ls B0 ret
  obtain ⟨CF, hA, hKN, hP, hD, hl⟩ := B0
  have hK := hKN.1
  obtain ⟨hx, hb, hml, hown, hts⟩ := id CF
  have hS : va_S A_ s_.heap s_.heap [] := va_S.rf
  have hl : lv_has ls 2 [(0, .ref g), (1, .int x)] := hl
  have hi9 := hts (.classLink RX4 9 "DrawerCards$Free") (by decide +kernel)
  have hi11 := hts (.classLink RX4 11 "DrawerCards$Old") (by decide +kernel)
  have hi13 := hts (.classLink RX4 13 "DrawerCards$Wild") (by decide +kernel)
  have hi15 := hts (.classLink RX4 15 "DrawerCards$Rod") (by decide +kernel)
  have hi17 := hts (.classLink RX4 17 "DrawerCards$Blank") (by decide +kernel)
  refine lv_iload_n hx hb dX4_isOne_0 rfl (lv_at hl 1 rfl) ?_
  rcases sw_cases x 0 6 with c1 | ⟨c1k, c1l, c1⟩
  · have c1n := fun (j : Nat) (hj : (j : Int) ≤ 5) (hj2 : j < 100000) => sw_ne c1 j hj hj2
    refine lv_tableOut (tgt := 67) hx hb dX4_isOne_1 c1 (by decide) ?_
    refine lv_iconst (v := nI 0) hx hb dX4_isOne_67 (by decide) ?_
    exact ret _ () _ _ _ _ dX4_isOne_68 rfl (by rw [bI_f (fun z => by rcases z with z | z | z; exact c1n 0 (by decide) (by decide) z; exact c1n 5 (by decide) (by decide) z.symm; exact c1n 4 (by decide) (by decide) z.symm)]; rfl) hP hD hS
  · rcases (show c1k = 0 ∨ c1k = 1 ∨ c1k = 2 ∨ c1k = 3 ∨ c1k = 4 ∨ c1k = 5 by omega) with c1e | c1e | c1e | c1e | c1e | c1e
    · subst c1e
      refine lv_tableIn (off := 39) (tgt := 40) hx hb dX4_isOne_1 (by omega) (by omega) (sw_at c1 rfl) (by decide) ?_
      have c1q := sw_eq c1 (by decide)
      refine lv_iconst (v := nI 1) hx hb dX4_isOne_40 (by decide) ?_
      exact ret _ () _ _ _ _ dX4_isOne_41 rfl (by rw [c1q]; decide) hP hD hS
    · subst c1e
      refine lv_tableIn (off := 41) (tgt := 42) hx hb dX4_isOne_1 (by omega) (by omega) (sw_at c1 rfl) (by decide) ?_
      have c1q := sw_eq c1 (by decide)
      refine lv_aload_n hx hb dX4_isOne_42 rfl (lv_at hl 0 rfl) ?_
      refine va_instNo (C := RX1) hx hb hown hi9 (hKN.2.2 ("DrawerCards$Blank", "DrawerCards$Free") (by decide +kernel)) (va_recv hK hP (ci := 1) (q0 := 0) rfl rfl) dX4_isOne_43 ?_
      exact ret _ () _ _ _ _ dX4_isOne_46 rfl (by rw [c1q]; decide) hP hD hS
    · subst c1e
      refine lv_tableIn (off := 46) (tgt := 47) hx hb dX4_isOne_1 (by omega) (by omega) (sw_at c1 rfl) (by decide) ?_
      have c1q := sw_eq c1 (by decide)
      refine lv_aload_n hx hb dX4_isOne_47 rfl (lv_at hl 0 rfl) ?_
      refine va_instNo (C := RX1) hx hb hown hi11 (hKN.2.2 ("DrawerCards$Blank", "DrawerCards$Old") (by decide +kernel)) (va_recv hK hP (ci := 1) (q0 := 0) rfl rfl) dX4_isOne_48 ?_
      exact ret _ () _ _ _ _ dX4_isOne_51 rfl (by rw [c1q]; decide) hP hD hS
    · subst c1e
      refine lv_tableIn (off := 51) (tgt := 52) hx hb dX4_isOne_1 (by omega) (by omega) (sw_at c1 rfl) (by decide) ?_
      have c1q := sw_eq c1 (by decide)
      refine lv_aload_n hx hb dX4_isOne_52 rfl (lv_at hl 0 rfl) ?_
      refine va_instNo (C := RX1) hx hb hown hi13 (hKN.2.2 ("DrawerCards$Blank", "DrawerCards$Wild") (by decide +kernel)) (va_recv hK hP (ci := 1) (q0 := 0) rfl rfl) dX4_isOne_53 ?_
      exact ret _ () _ _ _ _ dX4_isOne_56 rfl (by rw [c1q]; decide) hP hD hS
    · subst c1e
      refine lv_tableIn (off := 56) (tgt := 57) hx hb dX4_isOne_1 (by omega) (by omega) (sw_at c1 rfl) (by decide) ?_
      have c1q := sw_eq c1 (by decide)
      refine lv_aload_n hx hb dX4_isOne_57 rfl (lv_at hl 0 rfl) ?_
      refine va_instY (C := RX1) hx hb hown hi15 (hKN.2.1 _ (by decide +kernel)) (va_recv hK hP (ci := 1) (q0 := 0) rfl rfl) dX4_isOne_58 ?_
      exact ret _ () _ _ _ _ dX4_isOne_61 rfl (by rw [c1q]; decide) hP hD hS
    · subst c1e
      refine lv_tableIn (off := 61) (tgt := 62) hx hb dX4_isOne_1 (by omega) (by omega) (sw_at c1 rfl) (by decide) ?_
      have c1q := sw_eq c1 (by decide)
      refine lv_aload_n hx hb dX4_isOne_62 rfl (lv_at hl 0 rfl) ?_
      refine va_instS hx hb hown hi17 (hK.1 1 _ rfl).2 (va_recv hK hP (ci := 1) (q0 := 0) rfl rfl) dX4_isOne_63 ?_
      exact ret _ () _ _ _ _ dX4_isOne_66 rfl (by rw [c1q]; decide) hP hD hS
set_option maxHeartbeats 4000000 in
set_option maxRecDepth 100000 in
theorem k_X9_join (l : Launch) (D : va_G) (cy : Nat → ClassId) (sz : Nat) (kd : Nat → Nat) (k : Nat) (a : Nat) (b : Nat → Nat) (S : Nat → Option Nat) (t : Nat → Int32) (d : Int32) (li : Int32) (n : Nat) (hn : n < 8) (h3 : t 3 = nI n) (hk1 : 1 ≤ k) (hk5 : k ≤ 5) : Met l yX9_join wsX9_join (rmD 1) (pPre D (TY cy) ([((kd 1), .inr (3, [])), ((kd 2), .inr (4, [])), ((kd 3), .inr (9, [])), ((kd 4), .inr (6, [])), ((kd 5), .inr (1, [])), (a, .inr (8, [.ref (b 0), .ref (b 1), .ref (b 2), .ref (b 3), .int (t 1), .int (t 2), .int (t 3), .int (t 0)])), ((b 0), wRef (cy 2) 8 S), ((b 1), wInt (cy 0) 8 (fun j => t (13 + j))), ((b 2), wInt (cy 0) 8 (fun j => t (21 + j))), ((b 3), wInt (cy 0) 8 (fun j => t (29 + j)))]) sz [.ref a, .ref (kd k), .int d, .int li]) (pV D (TY cy) ([((kd 1), .inr (3, [])), ((kd 2), .inr (4, [])), ((kd 3), .inr (9, [])), ((kd 4), .inr (6, [])), ((kd 5), .inr (1, [])), (a, .inr (8, [.ref (b 0), .ref (b 1), .ref (b 2), .ref (b 3), .int (t 1), .int (t 2), .int (t 3), .int (t 0)])), ((b 0), wRef (cy 2) 8 S), ((b 1), wInt (cy 0) 8 (fun j => t (13 + j))), ((b 2), wInt (cy 0) 8 (fun j => t (21 + j))), ((b 3), wInt (cy 0) 8 (fun j => t (29 + j)))]) sz (fun u : (Nat → Option Nat) × (Nat → Int32) => [((kd 1), .inr (3, [])), ((kd 2), .inr (4, [])), ((kd 3), .inr (9, [])), ((kd 4), .inr (6, [])), ((kd 5), .inr (1, [])), (a, .inr (8, [.ref (b 0), .ref (b 1), .ref (b 2), .ref (b 3), .int (u.2 1), .int (u.2 2), .int (u.2 3), .int (u.2 0)])), ((b 0), wRef (cy 2) 8 u.1), ((b 1), wInt (cy 0) 8 (fun j => u.2 (13 + j))), ((b 2), wInt (cy 0) 8 (fun j => u.2 (21 + j))), ((b 3), wInt (cy 0) 8 (fun j => u.2 (29 + j)))]) (fun (u : (Nat → Option Nat) × (Nat → Int32)) => u = (va_up S n (some (kd k)), jnA t n d k li))) 0 0 (va_A ([((kd 1), .inr (3, [])), ((kd 2), .inr (4, [])), ((kd 3), .inr (9, [])), ((kd 4), .inr (6, [])), ((kd 5), .inr (1, [])), (a, .inr (8, [.ref (b 0), .ref (b 1), .ref (b 2), .ref (b 3), .int (t 1), .int (t 2), .int (t 3), .int (t 0)])), ((b 0), wRef (cy 2) 8 S), ((b 1), wInt (cy 0) 8 (fun j => t (13 + j))), ((b 2), wInt (cy 0) 8 (fun j => t (21 + j))), ((b 3), wInt (cy 0) 8 (fun j => t (29 + j)))]) sz) := by
  refine ent_v (cc := cX9_join) (maxL := 4) (by decide +kernel) rfl (Nat.le_of_ble_eq_true rfl) ?_
  intro p_ e_ s_ m_ args_ below_ meth_ c_ A_ Q_ ls B0 ret
  obtain ⟨CF, hA, hKN, hP, hD, hl⟩ := B0
  have hK := hKN.1
  obtain ⟨hx, hb, hml, hown, hts⟩ := id CF
  have hS : va_S A_ s_.heap s_.heap [] := va_S.rf
  have hl : lv_has ls 4 [(0, .ref a), (1, .ref (kd k)), (2, .int d), (3, .int li)] := hl
  have hf34 := hts (.fieldLink RX9 34 "DrawerCards$Shelf" "cards" "I") (by decide +kernel)
  have hinX9 := show ∀ w ∈ u_ws RX9 TX9 8, w ∈ wsX9_join from by decide +kernel
  have hf11 := hts (.fieldLink RX9 11 "DrawerCards$Shelf" "sort" "[LDrawerCards$Kind;") (by decide +kernel)
  have hf17 := hts (.fieldLink RX9 17 "DrawerCards$Shelf" "likes" "[I") (by decide +kernel)
  have hf24 := hts (.fieldLink RX9 24 "DrawerCards$Shelf" "place" "[I") (by decide +kernel)
  have hf21 := hts (.fieldLink RX9 21 "DrawerCards$Shelf" "in" "[I") (by decide +kernel)
  refine lv_aload_n hx hb dX9_join_0 rfl (lv_at hl 0 rfl) ?_
  refine va_get (ci := 8) (v := .int (t 3)) (C := RX9) (T := TX9) (N := 8) hx hb hts hinX9 hown hK hP 5 rfl rfl 6 (by decide) hf34 (fun _ h9 => h9) rfl dX9_join_1 ?_
  refine top_i h3 ?_
  refine lv_bipush (v := nI 8) hx hb dX9_join_4 (by decide) ?_
  refine ltN (tgt := 10) hx hb (by omega) (by decide) dX9_join_6 (by decide) (fun c6 => ?_) (fun c6 => absurd c6 (by omega))
  refine lv_aload_n hx hb dX9_join_10 rfl (lv_at hl 0 rfl) ?_
  refine va_get (ci := 8) (v := .ref (b 0)) (C := RX9) (T := TX9) (N := 8) hx hb hts hinX9 hown hK hP 5 rfl rfl 0 (by decide) hf11 (fun _ h9 => h9) rfl dX9_join_11 ?_
  refine lv_aload_n hx hb dX9_join_14 rfl (lv_at hl 0 rfl) ?_
  refine va_get (ci := 8) (v := .int (t 3)) (C := RX9) (T := TX9) (N := 8) hx hb hts hinX9 hown hK hP 5 rfl rfl 6 (by decide) hf34 (fun _ h9 => h9) rfl dX9_join_15 ?_
  refine top_i h3 ?_
  refine lv_aload_n hx hb dX9_join_18 rfl (lv_at hl 1 rfl) ?_
  refine W.eq (g2 := F0 m_ 19 ls (va_rf (some (kd k)) :: .int (nI n) :: .ref (b 0) :: [])) rfl ?_
  refine stK (f := S) (x := (some (kd k))) (ws' := [((kd 1), .inr (3, [])), ((kd 2), .inr (4, [])), ((kd 3), .inr (9, [])), ((kd 4), .inr (6, [])), ((kd 5), .inr (1, [])), (a, .inr (8, [.ref (b 0), .ref (b 1), .ref (b 2), .ref (b 3), .int (t 1), .int (t 2), .int (t 3), .int (t 0)])), ((b 0), wRef (cy 2) 8 (va_up S n (some (kd k)))), ((b 1), wInt (cy 0) 8 (fun j => t (13 + j))), ((b 2), wInt (cy 0) 8 (fun j => t (21 + j))), ((b 3), wInt (cy 0) 8 (fun j => t (29 + j)))]) hx hb hK hP hD hS 6 rfl (j := n) (okK_of hKN 0 (Or.inr ⟨k, hk1, hk5, rfl⟩) (kW_at kd _)) (by omega) (by decide) dX9_join_19 rfl (fun H locs hP hD hS => ?_)
  refine lv_aload_n hx hb dX9_join_20 rfl (lv_at hl 0 rfl) ?_
  refine va_get (ci := 8) (v := .ref (b 1)) (C := RX9) (T := TX9) (N := 8) hx hb hts hinX9 hown hK hP 5 rfl rfl 1 (by decide) hf17 (fun _ h9 => h9) rfl dX9_join_21 ?_
  refine lv_aload_n hx hb dX9_join_24 rfl (lv_at hl 0 rfl) ?_
  refine va_get (ci := 8) (v := .int (t 3)) (C := RX9) (T := TX9) (N := 8) hx hb hts hinX9 hown hK hP 5 rfl rfl 6 (by decide) hf34 (fun _ h9 => h9) rfl dX9_join_25 ?_
  refine top_i h3 ?_
  refine lv_iload_n hx hb dX9_join_28 rfl (lv_at hl 3 rfl) ?_
  refine stN (f := fun j => t (13 + j)) (ws' := [((kd 1), .inr (3, [])), ((kd 2), .inr (4, [])), ((kd 3), .inr (9, [])), ((kd 4), .inr (6, [])), ((kd 5), .inr (1, [])), (a, .inr (8, [.ref (b 0), .ref (b 1), .ref (b 2), .ref (b 3), .int (t 1), .int (t 2), .int (t 3), .int (t 0)])), ((b 0), wRef (cy 2) 8 (va_up S n (some (kd k)))), ((b 1), wInt (cy 0) 8 (upd (fun j => t (13 + j)) n li)), ((b 2), wInt (cy 0) 8 (fun j => t (21 + j))), ((b 3), wInt (cy 0) 8 (fun j => t (29 + j)))]) hx hb hK hP hD hS 7 rfl (j := n) (by omega) (by decide) dX9_join_29 rfl (fun H locs hP hD hS => ?_)
  refine lv_aload_n hx hb dX9_join_30 rfl (lv_at hl 0 rfl) ?_
  refine va_get (ci := 8) (v := .ref (b 3)) (C := RX9) (T := TX9) (N := 8) hx hb hts hinX9 hown hK hP 5 rfl rfl 3 (by decide) hf24 (fun _ h9 => h9) rfl dX9_join_31 ?_
  refine lv_aload_n hx hb dX9_join_34 rfl (lv_at hl 0 rfl) ?_
  refine va_get (ci := 8) (v := .int (t 3)) (C := RX9) (T := TX9) (N := 8) hx hb hts hinX9 hown hK hP 5 rfl rfl 6 (by decide) hf34 (fun _ h9 => h9) rfl dX9_join_35 ?_
  refine top_i h3 ?_
  obtain ⟨tl, etl⟩ : ∃ z, z = upd t (13 + n) li := ⟨_, rfl⟩
  obtain ⟨e1, e2, e3, e0, g1, g2, g3⟩ := jn1 hn etl
  rw [h3] at e3
  rw [e1, e2, e0, g1, g2, g3] at hP hD
  have h3l := e3.symm
  rw [h3, e3] at hP hD
  have hP : va_P D vwCl ([((kd 1), .inr (3, [])), ((kd 2), .inr (4, [])), ((kd 3), .inr (9, [])), ((kd 4), .inr (6, [])), ((kd 5), .inr (1, [])), (a, .inr (8, [.ref (b 0), .ref (b 1), .ref (b 2), .ref (b 3), .int (tl 1), .int (tl 2), .int (tl 3), .int (tl 0)])), ((b 0), wRef (cy 2) 8 (va_up S n (some (kd k)))), ((b 1), wInt (cy 0) 8 (fun j => tl (13 + j))), ((b 2), wInt (cy 0) 8 (fun j => tl (21 + j))), ((b 3), wInt (cy 0) 8 (fun j => tl (29 + j)))]) H := hP
  have hD : va_D A_ ([((kd 1), .inr (3, [])), ((kd 2), .inr (4, [])), ((kd 3), .inr (9, [])), ((kd 4), .inr (6, [])), ((kd 5), .inr (1, [])), (a, .inr (8, [.ref (b 0), .ref (b 1), .ref (b 2), .ref (b 3), .int (tl 1), .int (tl 2), .int (tl 3), .int (tl 0)])), ((b 0), wRef (cy 2) 8 (va_up S n (some (kd k)))), ((b 1), wInt (cy 0) 8 (fun j => tl (13 + j))), ((b 2), wInt (cy 0) 8 (fun j => tl (21 + j))), ((b 3), wInt (cy 0) 8 (fun j => tl (29 + j)))]) := hD
  refine lv_aload_n hx hb dX9_join_38 rfl (lv_at hl 0 rfl) ?_
  refine lv_iload_n hx hb dX9_join_39 rfl (lv_at hl 2 rfl) ?_
  refine call_i (wr := [((kd 1), .inr (3, [])), ((kd 2), .inr (4, [])), ((kd 3), .inr (9, [])), ((kd 4), .inr (6, [])), ((kd 5), .inr (1, []))]) (ws' := (fun _ : Unit => [((kd 1), .inr (3, [])), ((kd 2), .inr (4, [])), ((kd 3), .inr (9, [])), ((kd 4), .inr (6, [])), ((kd 5), .inr (1, [])), (a, .inr (8, [.ref (b 0), .ref (b 1), .ref (b 2), .ref (b 3), .int (tl 1), .int (tl 2), .int (tl 3), .int (tl 0)])), ((b 0), wRef (cy 2) 8 (va_up S n (some (kd k)))), ((b 1), wInt (cy 0) 8 (fun j => tl (13 + j))), ((b 2), wInt (cy 0) 8 (fun j => tl (21 + j))), ((b 3), wInt (cy 0) 8 (fun j => tl (29 + j)))])) (va_runV (As := [.int d]) (rest := [.int (nI n), .ref (b 3)]) CF (k_X9_fill l D cy _ a b (va_up S n (some (kd k))) tl d n (by omega) h3l) (cwV 1 hts gX9_join_X9_fill rfl rfl rfl (by decide +kernel) ⟨Nat.le_of_ble_eq_true rfl, Nat.le_of_ble_eq_true rfl⟩) (pre_V hKN hP hD [5, 6, 7, 8, 9] rfl (by decide) 5 8 rfl rfl) rfl rfl hl.1 rfl (lv_room (Nat.le_of_ble_eq_true rfl)) dX9_join_40 ⟨Nat.le_of_ble_eq_true rfl, Nat.le_of_ble_eq_true rfl⟩) hS hA hP hD [5, 6, 7, 8, 9] [0, 1, 2, 3, 4] [0, 1, 2, 3, 4, 5, 6, 7, 8, 9] rfl rfl (by decide) (by decide) (fun _ => rfl) (by decide) (fun r2 u1 H locs hw3 hP hD hS => ?_)
  replace hw3 := hw3.symm; subst hw3
  refine stN (f := fun j => tl (29 + j)) (ws' := [((kd 1), .inr (3, [])), ((kd 2), .inr (4, [])), ((kd 3), .inr (9, [])), ((kd 4), .inr (6, [])), ((kd 5), .inr (1, [])), (a, .inr (8, [.ref (b 0), .ref (b 1), .ref (b 2), .ref (b 3), .int (tl 1), .int (tl 2), .int (tl 3), .int (tl 0)])), ((b 0), wRef (cy 2) 8 (va_up S n (some (kd k)))), ((b 1), wInt (cy 0) 8 (fun j => tl (13 + j))), ((b 2), wInt (cy 0) 8 (fun j => tl (21 + j))), ((b 3), wInt (cy 0) 8 (upd (fun j => tl (29 + j)) n (fillN tl d n)))]) hx hb hK hP hD hS 9 rfl (j := n) (by omega) (by decide) dX9_join_43 rfl (fun H locs hP hD hS => ?_)
  refine lv_aload_n hx hb dX9_join_44 rfl (lv_at hl 0 rfl) ?_
  refine va_get (ci := 8) (v := .ref (b 2)) (C := RX9) (T := TX9) (N := 8) hx hb hts hinX9 hown hK hP 5 rfl rfl 2 (by decide) hf21 (fun _ h9 => h9) rfl dX9_join_45 ?_
  refine lv_aload_n hx hb dX9_join_48 rfl (lv_at hl 0 rfl) ?_
  refine va_get (ci := 8) (v := .int (tl 3)) (C := RX9) (T := TX9) (N := 8) hx hb hts hinX9 hown hK hP 5 rfl rfl 6 (by decide) hf34 (fun _ h9 => h9) rfl dX9_join_49 ?_
  refine top_i h3l ?_
  refine lv_iload_n hx hb dX9_join_52 rfl (lv_at hl 2 rfl) ?_
  refine stN (f := fun j => tl (21 + j)) (ws' := [((kd 1), .inr (3, [])), ((kd 2), .inr (4, [])), ((kd 3), .inr (9, [])), ((kd 4), .inr (6, [])), ((kd 5), .inr (1, [])), (a, .inr (8, [.ref (b 0), .ref (b 1), .ref (b 2), .ref (b 3), .int (tl 1), .int (tl 2), .int (tl 3), .int (tl 0)])), ((b 0), wRef (cy 2) 8 (va_up S n (some (kd k)))), ((b 1), wInt (cy 0) 8 (fun j => tl (13 + j))), ((b 2), wInt (cy 0) 8 (upd (fun j => tl (21 + j)) n d)), ((b 3), wInt (cy 0) 8 (upd (fun j => tl (29 + j)) n (fillN tl d n)))]) hx hb hK hP hD hS 8 rfl (j := n) (by omega) (by decide) dX9_join_53 rfl (fun H locs hP hD hS => ?_)
  refine lv_aload_n hx hb dX9_join_54 rfl (lv_at hl 0 rfl) ?_
  refine lv_dup hx hb dX9_join_55 rfl ?_
  refine va_get (ci := 8) (v := .int (tl 3)) (C := RX9) (T := TX9) (N := 8) hx hb hts hinX9 hown hK hP 5 rfl rfl 6 (by decide) hf34 (fun _ h9 => h9) rfl dX9_join_56 ?_
  refine top_i h3l ?_
  refine lv_iconst (v := nI 1) hx hb dX9_join_59 (by decide) ?_
  refine adN (k := n + 1) hx hb rfl dX9_join_60 ?_
  refine va_put (ci := 8) (v := .int (nI (n + 1))) (ty := .int) (C := RX9) (T := TX9) (N := 8) hx hb hts hinX9 tyX9 tyX9_ok nmX9 hown hK hP hD hS 5 rfl rfl 6 (by decide) hf34 (fun _ h9 => h9) rfl (by decide +kernel) rfl rfl (Nat.le_of_ble_eq_true rfl) dX9_join_61 (fun H locs hP hD hS => ?_)
  have hP : va_P D vwCl ([((kd 1), .inr (3, [])), ((kd 2), .inr (4, [])), ((kd 3), .inr (9, [])), ((kd 4), .inr (6, [])), ((kd 5), .inr (1, [])), (a, .inr (8, [.ref (b 0), .ref (b 1), .ref (b 2), .ref (b 3), .int (tl 1), .int (tl 2), .int (nI (n + 1)), .int (tl 0)])), ((b 0), wRef (cy 2) 8 (va_up S n (some (kd k)))), ((b 1), wInt (cy 0) 8 (fun j => tl (13 + j))), ((b 2), wInt (cy 0) 8 (upd (fun j => tl (21 + j)) n d)), ((b 3), wInt (cy 0) 8 (upd (fun j => tl (29 + j)) n (fillN tl d n)))]) H := hP
  have hD : va_D A_ ([((kd 1), .inr (3, [])), ((kd 2), .inr (4, [])), ((kd 3), .inr (9, [])), ((kd 4), .inr (6, [])), ((kd 5), .inr (1, [])), (a, .inr (8, [.ref (b 0), .ref (b 1), .ref (b 2), .ref (b 3), .int (tl 1), .int (tl 2), .int (nI (n + 1)), .int (tl 0)])), ((b 0), wRef (cy 2) 8 (va_up S n (some (kd k)))), ((b 1), wInt (cy 0) 8 (fun j => tl (13 + j))), ((b 2), wInt (cy 0) 8 (upd (fun j => tl (21 + j)) n d)), ((b 3), wInt (cy 0) 8 (upd (fun j => tl (29 + j)) n (fillN tl d n)))]) := hD
  exact ret (va_up S n (some (kd k)), (jnA t n d k li)) _ _ _ _ dX9_join_64 rfl (JP hn etl hP) (D_list hD rfl) hS
