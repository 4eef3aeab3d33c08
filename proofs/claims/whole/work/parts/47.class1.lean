set_option maxHeartbeats 4000000 in
set_option maxRecDepth 100000 in
theorem k_X9_isEmpty (l : Launch) (D : va_G) (cy : Nat → ClassId) (sz : Nat) (a : Nat) (b : Nat → Nat) (S : Nat → Option Nat) (t : Nat → Int32)  : Met l yX9_isEmpty wsX9_isEmpty (rmD 0) (pPre D (TY cy) ([(a, .inr (8, [.ref (b 0), .ref (b 1), .ref (b 2), .ref (b 3), .int (t 1), .int (t 2), .int (t 3), .int (t 0)])), ((b 0), wRef (cy 2) 8 S), ((b 1), wInt (cy 0) 8 (fun j => t (13 + j))), ((b 2), wInt (cy 0) 8 (fun j => t (21 + j))), ((b 3), wInt (cy 0) 8 (fun j => t (29 + j)))]) sz [.ref a]) (pI D (TY cy) ([(a, .inr (8, [.ref (b 0), .ref (b 1), .ref (b 2), .ref (b 3), .int (t 1), .int (t 2), .int (t 3), .int (t 0)])), ((b 0), wRef (cy 2) 8 S), ((b 1), wInt (cy 0) 8 (fun j => t (13 + j))), ((b 2), wInt (cy 0) 8 (fun j => t (21 + j))), ((b 3), wInt (cy 0) 8 (fun j => t (29 + j)))]) sz (fun _ : Unit => [(a, .inr (8, [.ref (b 0), .ref (b 1), .ref (b 2), .ref (b 3), .int (t 1), .int (t 2), .int (t 3), .int (t 0)])), ((b 0), wRef (cy 2) 8 S), ((b 1), wInt (cy 0) 8 (fun j => t (13 + j))), ((b 2), wInt (cy 0) 8 (fun j => t (21 + j))), ((b 3), wInt (cy 0) 8 (fun j => t (29 + j)))]) (fun (r_ : Int32) (_ : Unit) => r_ = bI (t 3 = 0))) 0 0 (va_A ([(a, .inr (8, [.ref (b 0), .ref (b 1), .ref (b 2), .ref (b 3), .int (t 1), .int (t 2), .int (t 3), .int (t 0)])), ((b 0), wRef (cy 2) 8 S), ((b 1), wInt (cy 0) 8 (fun j => t (13 + j))), ((b 2), wInt (cy 0) 8 (fun j => t (21 + j))), ((b 3), wInt (cy 0) 8 (fun j => t (29 + j)))]) sz) := by
  refine ent_z (cc := cX9_isEmpty) (maxL := 1) (by decide +kernel) rfl (Nat.le_of_ble_eq_true rfl) ?_
  intro p_ e_ s_ m_ args_ below_ meth_ c_ A_ Q_ ls B0 ret
  obtain ⟨CF, hA, hKN, hP, hD, hl⟩ := B0
  have hK := hKN.1
  obtain ⟨hx, hb, hml, hown, hts⟩ := id CF
  have hS : va_S A_ s_.heap s_.heap [] := va_S.rf
  have hl : lv_has ls 1 [(0, .ref a)] := hl
  have hf34 := hts (.fieldLink RX9 34 "DrawerCards$Shelf" "cards" "I") (by decide +kernel)
  have hinX9 := show ∀ w ∈ u_ws RX9 TX9 8, w ∈ wsX9_isEmpty from by decide +kernel
  refine lv_aload_n hx hb dX9_isEmpty_0 rfl (lv_at hl 0 rfl) ?_
  refine va_get (ci := 8) (v := .int (t 3)) (C := RX9) (T := TX9) (N := 8) hx hb hts hinX9 hown hK hP 0 rfl rfl 6 (by decide) hf34 (fun _ h9 => h9) rfl dX9_isEmpty_1 ?_
  refine lv_if_ne (tgt := 11) hx hb dX9_isEmpty_4 (by decide) (fun c4 => ?_) (fun c4 => ?_)
  · refine lv_iconst (v := nI 0) hx hb dX9_isEmpty_11 (by decide) ?_
    exact ret _ () _ _ _ _ dX9_isEmpty_12 rfl (by first | (rw [bI_t c4]; rfl) | (rw [bI_f c4]; rfl)) hP hD hS
  · refine lv_iconst (v := nI 1) hx hb dX9_isEmpty_7 (by decide) ?_
    refine lv_goto (tgt := 12) hx hb dX9_isEmpty_8 (by decide) ?_
    exact ret _ () _ _ _ _ dX9_isEmpty_12 rfl (by first | (rw [bI_t c4]; rfl) | (rw [bI_f c4]; rfl)) hP hD hS
set_option maxHeartbeats 4000000 in
set_option maxRecDepth 100000 in
theorem k_X9_hasCard (l : Launch) (D : va_G) (cy : Nat → ClassId) (sz : Nat) (a : Nat) (b : Nat → Nat) (S : Nat → Option Nat) (t : Nat → Int32) (x : Int32) (n : Nat) (h3 : t 3 = nI n) : Met l yX9_hasCard wsX9_hasCard (rmD 0) (pPre D (TY cy) ([(a, .inr (8, [.ref (b 0), .ref (b 1), .ref (b 2), .ref (b 3), .int (t 1), .int (t 2), .int (t 3), .int (t 0)])), ((b 0), wRef (cy 2) 8 S), ((b 1), wInt (cy 0) 8 (fun j => t (13 + j))), ((b 2), wInt (cy 0) 8 (fun j => t (21 + j))), ((b 3), wInt (cy 0) 8 (fun j => t (29 + j)))]) sz [.ref a, .int x]) (pI D (TY cy) ([(a, .inr (8, [.ref (b 0), .ref (b 1), .ref (b 2), .ref (b 3), .int (t 1), .int (t 2), .int (t 3), .int (t 0)])), ((b 0), wRef (cy 2) 8 S), ((b 1), wInt (cy 0) 8 (fun j => t (13 + j))), ((b 2), wInt (cy 0) 8 (fun j => t (21 + j))), ((b 3), wInt (cy 0) 8 (fun j => t (29 + j)))]) sz (fun _ : Unit => [(a, .inr (8, [.ref (b 0), .ref (b 1), .ref (b 2), .ref (b 3), .int (t 1), .int (t 2), .int (t 3), .int (t 0)])), ((b 0), wRef (cy 2) 8 S), ((b 1), wInt (cy 0) 8 (fun j => t (13 + j))), ((b 2), wInt (cy 0) 8 (fun j => t (21 + j))), ((b 3), wInt (cy 0) 8 (fun j => t (29 + j)))]) (fun (r_ : Int32) (_ : Unit) => r_ = bI (isC n x))) 0 0 (va_A ([(a, .inr (8, [.ref (b 0), .ref (b 1), .ref (b 2), .ref (b 3), .int (t 1), .int (t 2), .int (t 3), .int (t 0)])), ((b 0), wRef (cy 2) 8 S), ((b 1), wInt (cy 0) 8 (fun j => t (13 + j))), ((b 2), wInt (cy 0) 8 (fun j => t (21 + j))), ((b 3), wInt (cy 0) 8 (fun j => t (29 + j)))]) sz) := by
  refine ent_z (cc := cX9_hasCard) (maxL := 2) (by decide +kernel) rfl (Nat.le_of_ble_eq_true rfl) ?_
  intro p_ e_ s_ m_ args_ below_ meth_ c_ A_ Q_ ls B0 ret
  obtain ⟨CF, hA, hKN, hP, hD, hl⟩ := B0
  have hK := hKN.1
  obtain ⟨hx, hb, hml, hown, hts⟩ := id CF
  have hS : va_S A_ s_.heap s_.heap [] := va_S.rf
  have hl : lv_has ls 2 [(0, .ref a), (1, .int x)] := hl
  have hf34 := hts (.fieldLink RX9 34 "DrawerCards$Shelf" "cards" "I") (by decide +kernel)
  have hinX9 := show ∀ w ∈ u_ws RX9 TX9 8, w ∈ wsX9_hasCard from by decide +kernel
  refine lv_iload_n hx hb dX9_hasCard_0 rfl (lv_at hl 1 rfl) ?_
  refine lv_if_lt (tgt := 16) hx hb dX9_hasCard_1 (by decide) (fun c1 => ?_) (fun c1 => ?_)
  · refine lv_iconst (v := nI 0) hx hb dX9_hasCard_16 (by decide) ?_
    exact ret _ () _ _ _ _ dX9_hasCard_17 rfl (by rw [bI_f (fun z => by first | exact z.1 c1 | exact z.2 c9)]; rfl) hP hD hS
  · refine lv_iload_n hx hb dX9_hasCard_4 rfl (lv_at hl 1 rfl) ?_
    refine lv_aload_n hx hb dX9_hasCard_5 rfl (lv_at hl 0 rfl) ?_
    refine va_get (ci := 8) (v := .int (t 3)) (C := RX9) (T := TX9) (N := 8) hx hb hts hinX9 hown hK hP 0 rfl rfl 6 (by decide) hf34 (fun _ h9 => h9) rfl dX9_hasCard_6 ?_
    refine top_i h3 ?_
    refine lv_icmp_ge (tgt := 16) hx hb dX9_hasCard_9 (by decide) (fun c9 => ?_) (fun c9 => ?_)
    · refine lv_iconst (v := nI 0) hx hb dX9_hasCard_16 (by decide) ?_
      exact ret _ () _ _ _ _ dX9_hasCard_17 rfl (by rw [bI_f (fun z => by first | exact z.1 c1 | exact z.2 c9)]; rfl) hP hD hS
    · refine lv_iconst (v := nI 1) hx hb dX9_hasCard_12 (by decide) ?_
      refine lv_goto (tgt := 17) hx hb dX9_hasCard_13 (by decide) ?_
      exact ret _ () _ _ _ _ dX9_hasCard_17 rfl (by rw [bI_t ⟨c1, c9⟩]; rfl) hP hD hS
set_option maxHeartbeats 4000000 in
set_option maxRecDepth 100000 in
theorem k_X9_hasDrawer (l : Launch) (D : va_G) (cy : Nat → ClassId) (sz : Nat) (a : Nat) (b : Nat → Nat) (S : Nat → Option Nat) (t : Nat → Int32) (x : Int32) (n : Nat) (h3 : t 1 = nI n) : Met l yX9_hasDrawer wsX9_hasDrawer (rmD 0) (pPre D (TY cy) ([(a, .inr (8, [.ref (b 0), .ref (b 1), .ref (b 2), .ref (b 3), .int (t 1), .int (t 2), .int (t 3), .int (t 0)])), ((b 0), wRef (cy 2) 8 S), ((b 1), wInt (cy 0) 8 (fun j => t (13 + j))), ((b 2), wInt (cy 0) 8 (fun j => t (21 + j))), ((b 3), wInt (cy 0) 8 (fun j => t (29 + j)))]) sz [.ref a, .int x]) (pI D (TY cy) ([(a, .inr (8, [.ref (b 0), .ref (b 1), .ref (b 2), .ref (b 3), .int (t 1), .int (t 2), .int (t 3), .int (t 0)])), ((b 0), wRef (cy 2) 8 S), ((b 1), wInt (cy 0) 8 (fun j => t (13 + j))), ((b 2), wInt (cy 0) 8 (fun j => t (21 + j))), ((b 3), wInt (cy 0) 8 (fun j => t (29 + j)))]) sz (fun _ : Unit => [(a, .inr (8, [.ref (b 0), .ref (b 1), .ref (b 2), .ref (b 3), .int (t 1), .int (t 2), .int (t 3), .int (t 0)])), ((b 0), wRef (cy 2) 8 S), ((b 1), wInt (cy 0) 8 (fun j => t (13 + j))), ((b 2), wInt (cy 0) 8 (fun j => t (21 + j))), ((b 3), wInt (cy 0) 8 (fun j => t (29 + j)))]) (fun (r_ : Int32) (_ : Unit) => r_ = bI (isC n x))) 0 0 (va_A ([(a, .inr (8, [.ref (b 0), .ref (b 1), .ref (b 2), .ref (b 3), .int (t 1), .int (t 2), .int (t 3), .int (t 0)])), ((b 0), wRef (cy 2) 8 S), ((b 1), wInt (cy 0) 8 (fun j => t (13 + j))), ((b 2), wInt (cy 0) 8 (fun j => t (21 + j))), ((b 3), wInt (cy 0) 8 (fun j => t (29 + j)))]) sz) := by
  refine ent_z (cc := cX9_hasDrawer) (maxL := 2) (by decide +kernel) rfl (Nat.le_of_ble_eq_true rfl) ?_
  intro p_ e_ s_ m_ args_ below_ meth_ c_ A_ Q_ ls B0 ret
  obtain ⟨CF, hA, hKN, hP, hD, hl⟩ := B0
  have hK := hKN.1
  obtain ⟨hx, hb, hml, hown, hts⟩ := id CF
  have hS : va_S A_ s_.heap s_.heap [] := va_S.rf
  have hl : lv_has ls 2 [(0, .ref a), (1, .int x)] := hl
  have hf27 := hts (.fieldLink RX9 27 "DrawerCards$Shelf" "drawers" "I") (by decide +kernel)
  have hinX9 := show ∀ w ∈ u_ws RX9 TX9 8, w ∈ wsX9_hasDrawer from by decide +kernel
  refine lv_iload_n hx hb dX9_hasDrawer_0 rfl (lv_at hl 1 rfl) ?_
  refine lv_if_lt (tgt := 16) hx hb dX9_hasDrawer_1 (by decide) (fun c1 => ?_) (fun c1 => ?_)
  · refine lv_iconst (v := nI 0) hx hb dX9_hasDrawer_16 (by decide) ?_
    exact ret _ () _ _ _ _ dX9_hasDrawer_17 rfl (by rw [bI_f (fun z => by first | exact z.1 c1 | exact z.2 c9)]; rfl) hP hD hS
  · refine lv_iload_n hx hb dX9_hasDrawer_4 rfl (lv_at hl 1 rfl) ?_
    refine lv_aload_n hx hb dX9_hasDrawer_5 rfl (lv_at hl 0 rfl) ?_
    refine va_get (ci := 8) (v := .int (t 1)) (C := RX9) (T := TX9) (N := 8) hx hb hts hinX9 hown hK hP 0 rfl rfl 4 (by decide) hf27 (fun _ h9 => h9) rfl dX9_hasDrawer_6 ?_
    refine top_i h3 ?_
    refine lv_icmp_ge (tgt := 16) hx hb dX9_hasDrawer_9 (by decide) (fun c9 => ?_) (fun c9 => ?_)
    · refine lv_iconst (v := nI 0) hx hb dX9_hasDrawer_16 (by decide) ?_
      exact ret _ () _ _ _ _ dX9_hasDrawer_17 rfl (by rw [bI_f (fun z => by first | exact z.1 c1 | exact z.2 c9)]; rfl) hP hD hS
    · refine lv_iconst (v := nI 1) hx hb dX9_hasDrawer_12 (by decide) ?_
      refine lv_goto (tgt := 17) hx hb dX9_hasDrawer_13 (by decide) ?_
      exact ret _ () _ _ _ _ dX9_hasDrawer_17 rfl (by rw [bI_t ⟨c1, c9⟩]; rfl) hP hD hS
set_option maxHeartbeats 4000000 in
set_option maxRecDepth 100000 in
theorem k_X9_fill (l : Launch) (D : va_G) (cy : Nat → ClassId) (sz : Nat) (a : Nat) (b : Nat → Nat) (S : Nat → Option Nat) (t : Nat → Int32) (d : Int32) (n : Nat) (hn : n ≤ 8) (h3 : t 3 = nI n) : Met l yX9_fill wsX9_fill (rmD 0) (pPre D (TY cy) ([(a, .inr (8, [.ref (b 0), .ref (b 1), .ref (b 2), .ref (b 3), .int (t 1), .int (t 2), .int (t 3), .int (t 0)])), ((b 0), wRef (cy 2) 8 S), ((b 1), wInt (cy 0) 8 (fun j => t (13 + j))), ((b 2), wInt (cy 0) 8 (fun j => t (21 + j))), ((b 3), wInt (cy 0) 8 (fun j => t (29 + j)))]) sz [.ref a, .int d]) (pI D (TY cy) ([(a, .inr (8, [.ref (b 0), .ref (b 1), .ref (b 2), .ref (b 3), .int (t 1), .int (t 2), .int (t 3), .int (t 0)])), ((b 0), wRef (cy 2) 8 S), ((b 1), wInt (cy 0) 8 (fun j => t (13 + j))), ((b 2), wInt (cy 0) 8 (fun j => t (21 + j))), ((b 3), wInt (cy 0) 8 (fun j => t (29 + j)))]) sz (fun _ : Unit => [(a, .inr (8, [.ref (b 0), .ref (b 1), .ref (b 2), .ref (b 3), .int (t 1), .int (t 2), .int (t 3), .int (t 0)])), ((b 0), wRef (cy 2) 8 S), ((b 1), wInt (cy 0) 8 (fun j => t (13 + j))), ((b 2), wInt (cy 0) 8 (fun j => t (21 + j))), ((b 3), wInt (cy 0) 8 (fun j => t (29 + j)))]) (fun (r_ : Int32) (_ : Unit) => r_ = fillN t d n)) 0 0 (va_A ([(a, .inr (8, [.ref (b 0), .ref (b 1), .ref (b 2), .ref (b 3), .int (t 1), .int (t 2), .int (t 3), .int (t 0)])), ((b 0), wRef (cy 2) 8 S), ((b 1), wInt (cy 0) 8 (fun j => t (13 + j))), ((b 2), wInt (cy 0) 8 (fun j => t (21 + j))), ((b 3), wInt (cy 0) 8 (fun j => t (29 + j)))]) sz) := by
  refine ent_i (cc := cX9_fill) (maxL := 4) (by decide +kernel) rfl (Nat.le_of_ble_eq_true rfl) ?_
  intro p_ e_ s_ m_ args_ below_ meth_ c_ A_ Q_ ls B0 ret
  obtain ⟨CF, hA, hKN, hP, hD, hl⟩ := B0
  have hK := hKN.1
  obtain ⟨hx, hb, hml, hown, hts⟩ := id CF
  have hS : va_S A_ s_.heap s_.heap [] := va_S.rf
  have hl : lv_has ls 4 [(0, .ref a), (1, .int d)] := hl
  have hf34 := hts (.fieldLink RX9 34 "DrawerCards$Shelf" "cards" "I") (by decide +kernel)
  have hinX9 := show ∀ w ∈ u_ws RX9 TX9 8, w ∈ wsX9_fill from by decide +kernel
  have hf21 := hts (.fieldLink RX9 21 "DrawerCards$Shelf" "in" "[I") (by decide +kernel)
  refine lv_iconst (v := nI 0) hx hb dX9_fill_0 (by decide) ?_
  refine lv_istore_n (lv' := [(2, .int (nI 0)), (0, .ref a), (1, .int d)]) hx hb dX9_fill_1 rfl hl (by decide) rfl (fun ls hl => ?_)
  refine lv_iconst (v := nI 0) hx hb dX9_fill_2 (by decide) ?_
  refine lv_istore_n (lv' := [(3, .int (nI 0)), (2, .int (nI 0)), (0, .ref a), (1, .int d)]) hx hb dX9_fill_3 rfl hl (by decide) rfl (fun ls hl => ?_)
  have lp4 : ∀ f_ : Nat, ∀ (i : Nat) (x2 : Int32), (n - i) < f_ → (i ≤ n) → (x2 = fillN t d i) → ∀ (H : Heap) (locs : List Loc), va_P D vwCl ([(a, .inr (8, [.ref (b 0), .ref (b 1), .ref (b 2), .ref (b 3), .int (t 1), .int (t 2), .int (t 3), .int (t 0)])), ((b 0), wRef (cy 2) 8 S), ((b 1), wInt (cy 0) 8 (fun j => t (13 + j))), ((b 2), wInt (cy 0) 8 (fun j => t (21 + j))), ((b 3), wInt (cy 0) 8 (fun j => t (29 + j)))]) H → va_D A_ ([(a, .inr (8, [.ref (b 0), .ref (b 1), .ref (b 2), .ref (b 3), .int (t 1), .int (t 2), .int (t 3), .int (t 0)])), ((b 0), wRef (cy 2) 8 S), ((b 1), wInt (cy 0) 8 (fun j => t (13 + j))), ((b 2), wInt (cy 0) 8 (fun j => t (21 + j))), ((b 3), wInt (cy 0) 8 (fun j => t (29 + j)))]) → va_S A_ s_.heap H locs → ∀ ls : Array Slot, lv_has ls 4 [(0, .ref a), (1, .int d), (2, .int x2), (3, .int (nI i))] → W p_ l e_ (rmD 0) s_ m_ args_ below_ meth_ c_ H locs 0 0 Q_ (F0 m_ 4 ls []) := by
    intro f_
    induction f_ with
    | zero => intro i x2 hm_; exact absurd hm_ (by omega)
    | succ f_ ih4 =>
      intro i x2 hm_ hi e2 H locs hP hD hS ls hl
      refine lv_iload_n hx hb dX9_fill_4 rfl (lv_at hl 3 rfl) ?_
      refine lv_aload_n hx hb dX9_fill_5 rfl (lv_at hl 0 rfl) ?_
      refine va_get (ci := 8) (v := .int (t 3)) (C := RX9) (T := TX9) (N := 8) hx hb hts hinX9 hown hK hP 0 rfl rfl 6 (by decide) hf34 (fun _ h9 => h9) rfl dX9_fill_6 ?_
      refine top_i h3 ?_
      refine geN (tgt := 31) hx hb (by omega) (by omega) dX9_fill_9 (by decide) (fun c9 => ?_) (fun c9 => ?_)
      · refine lv_iload_n hx hb dX9_fill_31 rfl (lv_at hl 2 rfl) ?_
        exact ret _ () _ _ _ _ dX9_fill_32 (by rw [e2, show i = n by omega]) hP hD hS
      · refine lv_aload_n hx hb dX9_fill_12 rfl (lv_at hl 0 rfl) ?_
        refine va_get (ci := 8) (v := .ref (b 2)) (C := RX9) (T := TX9) (N := 8) hx hb hts hinX9 hown hK hP 0 rfl rfl 2 (by decide) hf21 (fun _ h9 => h9) rfl dX9_fill_13 ?_
        refine lv_iload_n hx hb dX9_fill_16 rfl (lv_at hl 3 rfl) ?_
        refine ldN (f := fun j => t (21 + j)) hx hb hK hP 3 rfl (j := i) (by omega) (by decide) dX9_fill_17 ?_
        refine top_i (y := (t (21 + i))) rfl ?_
        refine lv_iload_n hx hb dX9_fill_18 rfl (lv_at hl 1 rfl) ?_
        refine lv_icmp_ne (tgt := 25) hx hb dX9_fill_19 (by decide) (fun c19 => ?_) (fun c19 => ?_)
        · refine lv_iinc (v := nI (i + 1)) (lv' := [(3, .int (nI (i + 1))), (0, .ref a), (1, .int d), (2, .int x2)]) hx hb dX9_fill_25 hl (k := 3) rfl (nI_1 _) (by decide) rfl (fun ls hl => ?_)
          refine lv_goto (tgt := 4) hx hb dX9_fill_28 (by decide) ?_
          exact ih4 (i + 1) x2 (by omega) (by omega) (by subst e2; first | (rw [fillN, if_pos c19]; rfl) | (rw [fillN, if_neg c19, i_a0])) _ _ hP hD hS ls (lv_sub hl [1, 2, 3, 0] rfl)
        · refine lv_iinc (v := (x2 + 1)) (lv' := [(2, .int (x2 + 1)), (0, .ref a), (1, .int d), (3, .int (nI i))]) hx hb dX9_fill_22 hl (k := 2) rfl rfl (by decide) rfl (fun ls hl => ?_)
          refine lv_iinc (v := nI (i + 1)) (lv' := [(3, .int (nI (i + 1))), (2, .int (x2 + 1)), (0, .ref a), (1, .int d)]) hx hb dX9_fill_25 hl (k := 3) rfl (nI_1 _) (by decide) rfl (fun ls hl => ?_)
          refine lv_goto (tgt := 4) hx hb dX9_fill_28 (by decide) ?_
          exact ih4 (i + 1) (x2 + 1) (by omega) (by omega) (by subst e2; first | (rw [fillN, if_pos c19]; rfl) | (rw [fillN, if_neg c19, i_a0])) _ _ hP hD hS ls (lv_sub hl [2, 3, 1, 0] rfl)
  exact lp4 (n - 0 + 1) 0 (nI 0) (by omega) (by omega) rfl _ _ hP hD hS ls (lv_sub hl [2, 3, 1, 0] rfl)
set_option maxHeartbeats 4000000 in
set_option maxRecDepth 100000 in
theorem k_X9_holdsOneMore (l : Launch) (D : va_G) (cy : Nat → ClassId) (sz : Nat) (a : Nat) (b : Nat → Nat) (S : Nat → Option Nat) (t : Nat → Int32) (d : Int32) (n : Nat) (hn : n ≤ 8) (h3 : t 3 = nI n) : Met l yX9_holdsOneMore wsX9_holdsOneMore (rmD 1) (pPre D (TY cy) ([(a, .inr (8, [.ref (b 0), .ref (b 1), .ref (b 2), .ref (b 3), .int (t 1), .int (t 2), .int (t 3), .int (t 0)])), ((b 0), wRef (cy 2) 8 S), ((b 1), wInt (cy 0) 8 (fun j => t (13 + j))), ((b 2), wInt (cy 0) 8 (fun j => t (21 + j))), ((b 3), wInt (cy 0) 8 (fun j => t (29 + j)))]) sz [.ref a, .int d]) (pI D (TY cy) ([(a, .inr (8, [.ref (b 0), .ref (b 1), .ref (b 2), .ref (b 3), .int (t 1), .int (t 2), .int (t 3), .int (t 0)])), ((b 0), wRef (cy 2) 8 S), ((b 1), wInt (cy 0) 8 (fun j => t (13 + j))), ((b 2), wInt (cy 0) 8 (fun j => t (21 + j))), ((b 3), wInt (cy 0) 8 (fun j => t (29 + j)))]) sz (fun _ : Unit => [(a, .inr (8, [.ref (b 0), .ref (b 1), .ref (b 2), .ref (b 3), .int (t 1), .int (t 2), .int (t 3), .int (t 0)])), ((b 0), wRef (cy 2) 8 S), ((b 1), wInt (cy 0) 8 (fun j => t (13 + j))), ((b 2), wInt (cy 0) 8 (fun j => t (21 + j))), ((b 3), wInt (cy 0) 8 (fun j => t (29 + j)))]) (fun (r_ : Int32) (_ : Unit) => r_ = bI (¬ t 2 ≤ fillN t d n))) 0 0 (va_A ([(a, .inr (8, [.ref (b 0), .ref (b 1), .ref (b 2), .ref (b 3), .int (t 1), .int (t 2), .int (t 3), .int (t 0)])), ((b 0), wRef (cy 2) 8 S), ((b 1), wInt (cy 0) 8 (fun j => t (13 + j))), ((b 2), wInt (cy 0) 8 (fun j => t (21 + j))), ((b 3), wInt (cy 0) 8 (fun j => t (29 + j)))]) sz) := by
  refine ent_z (cc := cX9_holdsOneMore) (maxL := 2) (by decide +kernel) rfl (Nat.le_of_ble_eq_true rfl) ?_
  intro p_ e_ s_ m_ args_ below_ meth_ c_ A_ Q_ ls B0 ret
  obtain ⟨CF, hA, hKN, hP, hD, hl⟩ := B0
  have hK := hKN.1
  obtain ⟨hx, hb, hml, hown, hts⟩ := id CF
  have hS : va_S A_ s_.heap s_.heap [] := va_S.rf
  have hl : lv_has ls 2 [(0, .ref a), (1, .int d)] := hl
  have hf31 := hts (.fieldLink RX9 31 "DrawerCards$Shelf" "holds" "I") (by decide +kernel)
  have hinX9 := show ∀ w ∈ u_ws RX9 TX9 8, w ∈ wsX9_holdsOneMore from by decide +kernel
  refine lv_aload_n hx hb dX9_holdsOneMore_0 rfl (lv_at hl 0 rfl) ?_
  refine lv_iload_n hx hb dX9_holdsOneMore_1 rfl (lv_at hl 1 rfl) ?_
  refine call_i (wr := []) (ws' := (fun _ : Unit => [(a, .inr (8, [.ref (b 0), .ref (b 1), .ref (b 2), .ref (b 3), .int (t 1), .int (t 2), .int (t 3), .int (t 0)])), ((b 0), wRef (cy 2) 8 S), ((b 1), wInt (cy 0) 8 (fun j => t (13 + j))), ((b 2), wInt (cy 0) 8 (fun j => t (21 + j))), ((b 3), wInt (cy 0) 8 (fun j => t (29 + j)))])) (va_runV (As := [.int d]) (rest := []) CF (k_X9_fill l D cy _ a b S t d n (by first | assumption | omega | decide) (by first | assumption | omega | decide)) (cwV 1 hts gX9_holdsOneMore_X9_fill rfl rfl rfl (by decide +kernel) ⟨Nat.le_of_ble_eq_true rfl, Nat.le_of_ble_eq_true rfl⟩) (pre_V hKN hP hD [0, 1, 2, 3, 4] rfl (by decide) 0 8 rfl rfl) rfl rfl hl.1 rfl (lv_room (Nat.le_of_ble_eq_true rfl)) dX9_holdsOneMore_2 ⟨Nat.le_of_ble_eq_true rfl, Nat.le_of_ble_eq_true rfl⟩) hS hA hP hD [0, 1, 2, 3, 4] [] [0, 1, 2, 3, 4] rfl rfl (by decide) (by decide) (fun _ => rfl) (by decide) (fun r2 u1 H locs hw3 hP hD hS => ?_)
  replace hw3 := hw3.symm; subst hw3
  refine lv_aload_n hx hb dX9_holdsOneMore_5 rfl (lv_at hl 0 rfl) ?_
  refine va_get (ci := 8) (v := .int (t 2)) (C := RX9) (T := TX9) (N := 8) hx hb hts hinX9 hown hK hP 0 rfl rfl 5 (by decide) hf31 (fun _ h9 => h9) rfl dX9_holdsOneMore_6 ?_
  refine lv_icmp_ge (tgt := 16) hx hb dX9_holdsOneMore_9 (by decide) (fun c9 => ?_) (fun c9 => ?_)
  · refine lv_iconst (v := nI 0) hx hb dX9_holdsOneMore_16 (by decide) ?_
    exact ret _ () _ _ _ _ dX9_holdsOneMore_17 rfl (by first | (rw [bI_t c9]; rfl) | (rw [bI_f (fun z => z c9)]; rfl)) hP hD hS
  · refine lv_iconst (v := nI 1) hx hb dX9_holdsOneMore_12 (by decide) ?_
    refine lv_goto (tgt := 17) hx hb dX9_holdsOneMore_13 (by decide) ?_
    exact ret _ () _ _ _ _ dX9_holdsOneMore_17 rfl (by first | (rw [bI_t c9]; rfl) | (rw [bI_f (fun z => z c9)]; rfl)) hP hD hS
set_option maxHeartbeats 4000000 in
set_option maxRecDepth 100000 in
theorem k_X9_cardBits (l : Launch) (D : va_G) (cy : Nat → ClassId) (sz : Nat) (a : Nat) (b : Nat → Nat) (S : Nat → Option Nat) (t : Nat → Int32) (d : Int32) (n : Nat) (hn : n ≤ 8) (h3 : t 3 = nI n) : Met l yX9_cardBits wsX9_cardBits (rmD 0) (pPre D (TY cy) ([(a, .inr (8, [.ref (b 0), .ref (b 1), .ref (b 2), .ref (b 3), .int (t 1), .int (t 2), .int (t 3), .int (t 0)])), ((b 0), wRef (cy 2) 8 S), ((b 1), wInt (cy 0) 8 (fun j => t (13 + j))), ((b 2), wInt (cy 0) 8 (fun j => t (21 + j))), ((b 3), wInt (cy 0) 8 (fun j => t (29 + j)))]) sz [.ref a, .int d]) (pI D (TY cy) ([(a, .inr (8, [.ref (b 0), .ref (b 1), .ref (b 2), .ref (b 3), .int (t 1), .int (t 2), .int (t 3), .int (t 0)])), ((b 0), wRef (cy 2) 8 S), ((b 1), wInt (cy 0) 8 (fun j => t (13 + j))), ((b 2), wInt (cy 0) 8 (fun j => t (21 + j))), ((b 3), wInt (cy 0) 8 (fun j => t (29 + j)))]) sz (fun _ : Unit => [(a, .inr (8, [.ref (b 0), .ref (b 1), .ref (b 2), .ref (b 3), .int (t 1), .int (t 2), .int (t 3), .int (t 0)])), ((b 0), wRef (cy 2) 8 S), ((b 1), wInt (cy 0) 8 (fun j => t (13 + j))), ((b 2), wInt (cy 0) 8 (fun j => t (21 + j))), ((b 3), wInt (cy 0) 8 (fun j => t (29 + j)))]) (fun (r_ : Int32) (_ : Unit) => r_ = cardsN t d n)) 0 0 (va_A ([(a, .inr (8, [.ref (b 0), .ref (b 1), .ref (b 2), .ref (b 3), .int (t 1), .int (t 2), .int (t 3), .int (t 0)])), ((b 0), wRef (cy 2) 8 S), ((b 1), wInt (cy 0) 8 (fun j => t (13 + j))), ((b 2), wInt (cy 0) 8 (fun j => t (21 + j))), ((b 3), wInt (cy 0) 8 (fun j => t (29 + j)))]) sz) := by
  refine ent_i (cc := cX9_cardBits) (maxL := 4) (by decide +kernel) rfl (Nat.le_of_ble_eq_true rfl) ?_
  intro p_ e_ s_ m_ args_ below_ meth_ c_ A_ Q_ ls B0 ret
  obtain ⟨CF, hA, hKN, hP, hD, hl⟩ := B0
  have hK := hKN.1
  obtain ⟨hx, hb, hml, hown, hts⟩ := id CF
  have hS : va_S A_ s_.heap s_.heap [] := va_S.rf
  have hl : lv_has ls 4 [(0, .ref a), (1, .int d)] := hl
  have hf34 := hts (.fieldLink RX9 34 "DrawerCards$Shelf" "cards" "I") (by decide +kernel)
  have hinX9 := show ∀ w ∈ u_ws RX9 TX9 8, w ∈ wsX9_cardBits from by decide +kernel
  have hf21 := hts (.fieldLink RX9 21 "DrawerCards$Shelf" "in" "[I") (by decide +kernel)
  refine lv_iconst (v := nI 0) hx hb dX9_cardBits_0 (by decide) ?_
  refine lv_istore_n (lv' := [(2, .int (nI 0)), (0, .ref a), (1, .int d)]) hx hb dX9_cardBits_1 rfl hl (by decide) rfl (fun ls hl => ?_)
  refine lv_iconst (v := nI 0) hx hb dX9_cardBits_2 (by decide) ?_
  refine lv_istore_n (lv' := [(3, .int (nI 0)), (2, .int (nI 0)), (0, .ref a), (1, .int d)]) hx hb dX9_cardBits_3 rfl hl (by decide) rfl (fun ls hl => ?_)
  have lp4 : ∀ f_ : Nat, ∀ (i : Nat) (x2 : Int32), (n - i) < f_ → (i ≤ n) → (x2 = cardsN t d i) → ∀ (H : Heap) (locs : List Loc), va_P D vwCl ([(a, .inr (8, [.ref (b 0), .ref (b 1), .ref (b 2), .ref (b 3), .int (t 1), .int (t 2), .int (t 3), .int (t 0)])), ((b 0), wRef (cy 2) 8 S), ((b 1), wInt (cy 0) 8 (fun j => t (13 + j))), ((b 2), wInt (cy 0) 8 (fun j => t (21 + j))), ((b 3), wInt (cy 0) 8 (fun j => t (29 + j)))]) H → va_D A_ ([(a, .inr (8, [.ref (b 0), .ref (b 1), .ref (b 2), .ref (b 3), .int (t 1), .int (t 2), .int (t 3), .int (t 0)])), ((b 0), wRef (cy 2) 8 S), ((b 1), wInt (cy 0) 8 (fun j => t (13 + j))), ((b 2), wInt (cy 0) 8 (fun j => t (21 + j))), ((b 3), wInt (cy 0) 8 (fun j => t (29 + j)))]) → va_S A_ s_.heap H locs → ∀ ls : Array Slot, lv_has ls 4 [(0, .ref a), (1, .int d), (2, .int x2), (3, .int (nI i))] → W p_ l e_ (rmD 0) s_ m_ args_ below_ meth_ c_ H locs 0 0 Q_ (F0 m_ 4 ls []) := by
    intro f_
    induction f_ with
    | zero => intro i x2 hm_; exact absurd hm_ (by omega)
    | succ f_ ih4 =>
      intro i x2 hm_ hi e2 H locs hP hD hS ls hl
      refine lv_iload_n hx hb dX9_cardBits_4 rfl (lv_at hl 3 rfl) ?_
      refine lv_aload_n hx hb dX9_cardBits_5 rfl (lv_at hl 0 rfl) ?_
      refine va_get (ci := 8) (v := .int (t 3)) (C := RX9) (T := TX9) (N := 8) hx hb hts hinX9 hown hK hP 0 rfl rfl 6 (by decide) hf34 (fun _ h9 => h9) rfl dX9_cardBits_6 ?_
      refine top_i h3 ?_
      refine geN (tgt := 34) hx hb (by omega) (by omega) dX9_cardBits_9 (by decide) (fun c9 => ?_) (fun c9 => ?_)
      · refine lv_iload_n hx hb dX9_cardBits_34 rfl (lv_at hl 2 rfl) ?_
        exact ret _ () _ _ _ _ dX9_cardBits_35 (by rw [e2, show i = n by omega]) hP hD hS
      · refine lv_aload_n hx hb dX9_cardBits_12 rfl (lv_at hl 0 rfl) ?_
        refine va_get (ci := 8) (v := .ref (b 2)) (C := RX9) (T := TX9) (N := 8) hx hb hts hinX9 hown hK hP 0 rfl rfl 2 (by decide) hf21 (fun _ h9 => h9) rfl dX9_cardBits_13 ?_
        refine lv_iload_n hx hb dX9_cardBits_16 rfl (lv_at hl 3 rfl) ?_
        refine ldN (f := fun j => t (21 + j)) hx hb hK hP 3 rfl (j := i) (by omega) (by decide) dX9_cardBits_17 ?_
        refine top_i (y := (t (21 + i))) rfl ?_
        refine lv_iload_n hx hb dX9_cardBits_18 rfl (lv_at hl 1 rfl) ?_
        refine lv_icmp_ne (tgt := 28) hx hb dX9_cardBits_19 (by decide) (fun c19 => ?_) (fun c19 => ?_)
        · refine lv_iinc (v := nI (i + 1)) (lv' := [(3, .int (nI (i + 1))), (0, .ref a), (1, .int d), (2, .int x2)]) hx hb dX9_cardBits_28 hl (k := 3) rfl (nI_1 _) (by decide) rfl (fun ls hl => ?_)
          refine lv_goto (tgt := 4) hx hb dX9_cardBits_31 (by decide) ?_
          exact ih4 (i + 1) x2 (by omega) (by omega) (by subst e2; first | (rw [cardsN, if_pos c19]; done) | (rw [cardsN, if_neg c19, i_o0])) _ _ hP hD hS ls (lv_sub hl [1, 2, 3, 0] rfl)
        · refine lv_iload_n hx hb dX9_cardBits_22 rfl (lv_at hl 2 rfl) ?_
          refine lv_iconst (v := nI 1) hx hb dX9_cardBits_23 (by decide) ?_
          refine lv_iload_n hx hb dX9_cardBits_24 rfl (lv_at hl 3 rfl) ?_
          refine lv_ishl hx hb dX9_cardBits_25 ?_
          refine lv_ior hx hb dX9_cardBits_26 ?_
          refine lv_istore_n (lv' := [(2, .int (x2 ||| (nI 1 <<< (nI i &&& 31)))), (0, .ref a), (1, .int d), (3, .int (nI i))]) hx hb dX9_cardBits_27 rfl hl (by decide) rfl (fun ls hl => ?_)
          refine lv_iinc (v := nI (i + 1)) (lv' := [(3, .int (nI (i + 1))), (2, .int (x2 ||| (nI 1 <<< (nI i &&& 31)))), (0, .ref a), (1, .int d)]) hx hb dX9_cardBits_28 hl (k := 3) rfl (nI_1 _) (by decide) rfl (fun ls hl => ?_)
          refine lv_goto (tgt := 4) hx hb dX9_cardBits_31 (by decide) ?_
          exact ih4 (i + 1) (x2 ||| (nI 1 <<< (nI i &&& 31))) (by omega) (by omega) (by subst e2; first | (rw [cardsN, if_pos c19]; done) | (rw [cardsN, if_neg c19, i_o0])) _ _ hP hD hS ls (lv_sub hl [2, 3, 1, 0] rfl)
  exact lp4 (n - 0 + 1) 0 (nI 0) (by omega) (by omega) rfl _ _ hP hD hS ls (lv_sub hl [2, 3, 1, 0] rfl)
set_option maxHeartbeats 4000000 in
set_option maxRecDepth 100000 in
theorem k_X9_cardAt (l : Launch) (D : va_G) (cy : Nat → ClassId) (sz : Nat) (a : Nat) (b : Nat → Nat) (S : Nat → Option Nat) (t : Nat → Int32) (d : Int32) (pl : Int32) (n : Nat) (hn : n ≤ 8) (h3 : t 3 = nI n) : Met l yX9_cardAt wsX9_cardAt (rmD 0) (pPre D (TY cy) ([(a, .inr (8, [.ref (b 0), .ref (b 1), .ref (b 2), .ref (b 3), .int (t 1), .int (t 2), .int (t 3), .int (t 0)])), ((b 0), wRef (cy 2) 8 S), ((b 1), wInt (cy 0) 8 (fun j => t (13 + j))), ((b 2), wInt (cy 0) 8 (fun j => t (21 + j))), ((b 3), wInt (cy 0) 8 (fun j => t (29 + j)))]) sz [.ref a, .int d, .int pl]) (pI D (TY cy) ([(a, .inr (8, [.ref (b 0), .ref (b 1), .ref (b 2), .ref (b 3), .int (t 1), .int (t 2), .int (t 3), .int (t 0)])), ((b 0), wRef (cy 2) 8 S), ((b 1), wInt (cy 0) 8 (fun j => t (13 + j))), ((b 2), wInt (cy 0) 8 (fun j => t (21 + j))), ((b 3), wInt (cy 0) 8 (fun j => t (29 + j)))]) sz (fun _ : Unit => [(a, .inr (8, [.ref (b 0), .ref (b 1), .ref (b 2), .ref (b 3), .int (t 1), .int (t 2), .int (t 3), .int (t 0)])), ((b 0), wRef (cy 2) 8 S), ((b 1), wInt (cy 0) 8 (fun j => t (13 + j))), ((b 2), wInt (cy 0) 8 (fun j => t (21 + j))), ((b 3), wInt (cy 0) 8 (fun j => t (29 + j)))]) (fun (r_ : Int32) (_ : Unit) => r_ = cdF t d pl n 0)) 0 0 (va_A ([(a, .inr (8, [.ref (b 0), .ref (b 1), .ref (b 2), .ref (b 3), .int (t 1), .int (t 2), .int (t 3), .int (t 0)])), ((b 0), wRef (cy 2) 8 S), ((b 1), wInt (cy 0) 8 (fun j => t (13 + j))), ((b 2), wInt (cy 0) 8 (fun j => t (21 + j))), ((b 3), wInt (cy 0) 8 (fun j => t (29 + j)))]) sz) := by
  refine ent_i (cc := cX9_cardAt) (maxL := 4) (by decide +kernel) rfl (Nat.le_of_ble_eq_true rfl) ?_
  intro p_ e_ s_ m_ args_ below_ meth_ c_ A_ Q_ ls B0 ret
  obtain ⟨CF, hA, hKN, hP, hD, hl⟩ := B0
  have hK := hKN.1
  obtain ⟨hx, hb, hml, hown, hts⟩ := id CF
  have hS : va_S A_ s_.heap s_.heap [] := va_S.rf
  have hl : lv_has ls 4 [(0, .ref a), (1, .int d), (2, .int pl)] := hl
  have hf34 := hts (.fieldLink RX9 34 "DrawerCards$Shelf" "cards" "I") (by decide +kernel)
  have hinX9 := show ∀ w ∈ u_ws RX9 TX9 8, w ∈ wsX9_cardAt from by decide +kernel
  have hc48 := hts (.constant RX9 48 (-1000000)) (by decide +kernel)
  have hf21 := hts (.fieldLink RX9 21 "DrawerCards$Shelf" "in" "[I") (by decide +kernel)
  have hf24 := hts (.fieldLink RX9 24 "DrawerCards$Shelf" "place" "[I") (by decide +kernel)
  refine lv_iconst (v := nI 0) hx hb dX9_cardAt_0 (by decide) ?_
  refine lv_istore_n (lv' := [(3, .int (nI 0)), (0, .ref a), (1, .int d), (2, .int pl)]) hx hb dX9_cardAt_1 rfl hl (by decide) rfl (fun ls hl => ?_)
  have lp2 : ∀ f_ : Nat, ∀ (i : Nat), (n - i) < f_ → (i ≤ n) → (cdF t d pl n 0 = cdF t d pl (n - i) i) → ∀ (H : Heap) (locs : List Loc), va_P D vwCl ([(a, .inr (8, [.ref (b 0), .ref (b 1), .ref (b 2), .ref (b 3), .int (t 1), .int (t 2), .int (t 3), .int (t 0)])), ((b 0), wRef (cy 2) 8 S), ((b 1), wInt (cy 0) 8 (fun j => t (13 + j))), ((b 2), wInt (cy 0) 8 (fun j => t (21 + j))), ((b 3), wInt (cy 0) 8 (fun j => t (29 + j)))]) H → va_D A_ ([(a, .inr (8, [.ref (b 0), .ref (b 1), .ref (b 2), .ref (b 3), .int (t 1), .int (t 2), .int (t 3), .int (t 0)])), ((b 0), wRef (cy 2) 8 S), ((b 1), wInt (cy 0) 8 (fun j => t (13 + j))), ((b 2), wInt (cy 0) 8 (fun j => t (21 + j))), ((b 3), wInt (cy 0) 8 (fun j => t (29 + j)))]) → va_S A_ s_.heap H locs → ∀ ls : Array Slot, lv_has ls 4 [(0, .ref a), (1, .int d), (2, .int pl), (3, .int (nI i))] → W p_ l e_ (rmD 0) s_ m_ args_ below_ meth_ c_ H locs 0 0 Q_ (F0 m_ 2 ls []) := by
    intro f_
    induction f_ with
    | zero => intro i hm_; exact absurd hm_ (by omega)
    | succ f_ ih2 =>
      intro i hm_ hi eF H locs hP hD hS ls hl
      refine lv_iload_n hx hb dX9_cardAt_2 rfl (lv_at hl 3 rfl) ?_
      refine lv_aload_n hx hb dX9_cardAt_3 rfl (lv_at hl 0 rfl) ?_
      refine va_get (ci := 8) (v := .int (t 3)) (C := RX9) (T := TX9) (N := 8) hx hb hts hinX9 hown hK hP 0 rfl rfl 6 (by decide) hf34 (fun _ h9 => h9) rfl dX9_cardAt_4 ?_
      refine top_i h3 ?_
      refine geN (tgt := 38) hx hb (by omega) (by omega) dX9_cardAt_7 (by decide) (fun c7 => ?_) (fun c7 => ?_)
      · refine lv_ldc hx hb hown hc48 dX9_cardAt_38 ?_
        exact ret _ () _ _ _ _ dX9_cardAt_40 (by rw [eF, show n - i = 0 by omega]; rfl) hP hD hS
      · refine lv_aload_n hx hb dX9_cardAt_10 rfl (lv_at hl 0 rfl) ?_
        refine va_get (ci := 8) (v := .ref (b 2)) (C := RX9) (T := TX9) (N := 8) hx hb hts hinX9 hown hK hP 0 rfl rfl 2 (by decide) hf21 (fun _ h9 => h9) rfl dX9_cardAt_11 ?_
        refine lv_iload_n hx hb dX9_cardAt_14 rfl (lv_at hl 3 rfl) ?_
        refine ldN (f := fun j => t (21 + j)) hx hb hK hP 3 rfl (j := i) (by omega) (by decide) dX9_cardAt_15 ?_
        refine top_i (y := (t (21 + i))) rfl ?_
        refine lv_iload_n hx hb dX9_cardAt_16 rfl (lv_at hl 1 rfl) ?_
        refine lv_icmp_ne (tgt := 32) hx hb dX9_cardAt_17 (by decide) (fun c17 => ?_) (fun c17 => ?_)
        · refine lv_iinc (v := nI (i + 1)) (lv' := [(3, .int (nI (i + 1))), (0, .ref a), (1, .int d), (2, .int pl)]) hx hb dX9_cardAt_32 hl (k := 3) rfl (nI_1 _) (by decide) rfl (fun ls hl => ?_)
          refine lv_goto (tgt := 2) hx hb dX9_cardAt_35 (by decide) ?_
          exact ih2 (i + 1) (by omega) (by omega) (by rw [eF, cdF_at _ _ _ (by omega), if_neg (fun z => by first | exact c17 z.1 | exact c27 z.2)]) _ _ hP hD hS ls (lv_sub hl [1, 2, 3, 0] rfl)
        · refine lv_aload_n hx hb dX9_cardAt_20 rfl (lv_at hl 0 rfl) ?_
          refine va_get (ci := 8) (v := .ref (b 3)) (C := RX9) (T := TX9) (N := 8) hx hb hts hinX9 hown hK hP 0 rfl rfl 3 (by decide) hf24 (fun _ h9 => h9) rfl dX9_cardAt_21 ?_
          refine lv_iload_n hx hb dX9_cardAt_24 rfl (lv_at hl 3 rfl) ?_
          refine ldN (f := fun j => t (29 + j)) hx hb hK hP 4 rfl (j := i) (by omega) (by decide) dX9_cardAt_25 ?_
          refine top_i (y := (t (29 + i))) rfl ?_
          refine lv_iload_n hx hb dX9_cardAt_26 rfl (lv_at hl 2 rfl) ?_
          refine lv_icmp_ne (tgt := 32) hx hb dX9_cardAt_27 (by decide) (fun c27 => ?_) (fun c27 => ?_)
          · refine lv_iinc (v := nI (i + 1)) (lv' := [(3, .int (nI (i + 1))), (0, .ref a), (1, .int d), (2, .int pl)]) hx hb dX9_cardAt_32 hl (k := 3) rfl (nI_1 _) (by decide) rfl (fun ls hl => ?_)
            refine lv_goto (tgt := 2) hx hb dX9_cardAt_35 (by decide) ?_
            exact ih2 (i + 1) (by omega) (by omega) (by rw [eF, cdF_at _ _ _ (by omega), if_neg (fun z => by first | exact c17 z.1 | exact c27 z.2)]) _ _ hP hD hS ls (lv_sub hl [1, 2, 3, 0] rfl)
          · refine lv_iload_n hx hb dX9_cardAt_30 rfl (lv_at hl 3 rfl) ?_
            exact ret _ () _ _ _ _ dX9_cardAt_31 (by rw [eF, cdF_at _ _ _ (by omega), if_pos ⟨c17, c27⟩]) hP hD hS
  exact lp2 (n - 0 + 1) 0 (by omega) (by omega) rfl _ _ hP hD hS ls (lv_sub hl [1, 2, 3, 0] rfl)
set_option maxHeartbeats 4000000 in
set_option maxRecDepth 100000 in
theorem k_X9_dear (l : Launch) (D : va_G) (cy : Nat → ClassId) (sz : Nat) (a : Nat) (b : Nat → Nat) (S : Nat → Option Nat) (t : Nat → Int32) (c : Nat) (n : Nat) (hn : n ≤ 8) (h3 : t 3 = nI n) (hc : c < n) : Met l yX9_dear wsX9_dear (rmD 1) (pPre D (TY cy) ([(a, .inr (8, [.ref (b 0), .ref (b 1), .ref (b 2), .ref (b 3), .int (t 1), .int (t 2), .int (t 3), .int (t 0)])), ((b 0), wRef (cy 2) 8 S), ((b 1), wInt (cy 0) 8 (fun j => t (13 + j))), ((b 2), wInt (cy 0) 8 (fun j => t (21 + j))), ((b 3), wInt (cy 0) 8 (fun j => t (29 + j)))]) sz [.ref a, .int (nI c)]) (pI D (TY cy) ([(a, .inr (8, [.ref (b 0), .ref (b 1), .ref (b 2), .ref (b 3), .int (t 1), .int (t 2), .int (t 3), .int (t 0)])), ((b 0), wRef (cy 2) 8 S), ((b 1), wInt (cy 0) 8 (fun j => t (13 + j))), ((b 2), wInt (cy 0) 8 (fun j => t (21 + j))), ((b 3), wInt (cy 0) 8 (fun j => t (29 + j)))]) sz (fun _ : Unit => [(a, .inr (8, [.ref (b 0), .ref (b 1), .ref (b 2), .ref (b 3), .int (t 1), .int (t 2), .int (t 3), .int (t 0)])), ((b 0), wRef (cy 2) 8 S), ((b 1), wInt (cy 0) 8 (fun j => t (13 + j))), ((b 2), wInt (cy 0) 8 (fun j => t (21 + j))), ((b 3), wInt (cy 0) 8 (fun j => t (29 + j)))]) (fun (r_ : Int32) (_ : Unit) => r_ = drF t n c)) 0 0 (va_A ([(a, .inr (8, [.ref (b 0), .ref (b 1), .ref (b 2), .ref (b 3), .int (t 1), .int (t 2), .int (t 3), .int (t 0)])), ((b 0), wRef (cy 2) 8 S), ((b 1), wInt (cy 0) 8 (fun j => t (13 + j))), ((b 2), wInt (cy 0) 8 (fun j => t (21 + j))), ((b 3), wInt (cy 0) 8 (fun j => t (29 + j)))]) sz) := by
  refine ent_i (cc := cX9_dear) (maxL := 2) (by decide +kernel) rfl (Nat.le_of_ble_eq_true rfl) ?_
  intro p_ e_ s_ m_ args_ below_ meth_ c_ A_ Q_ ls B0 ret
  obtain ⟨CF, hA, hKN, hP, hD, hl⟩ := B0
  have hK := hKN.1
  obtain ⟨hx, hb, hml, hown, hts⟩ := id CF
  have hS : va_S A_ s_.heap s_.heap [] := va_S.rf
  have hl : lv_has ls 2 [(0, .ref a), (1, .int (nI c))] := hl
  have hf17 := hts (.fieldLink RX9 17 "DrawerCards$Shelf" "likes" "[I") (by decide +kernel)
  have hinX9 := show ∀ w ∈ u_ws RX9 TX9 8, w ∈ wsX9_dear from by decide +kernel
  have hc48 := hts (.constant RX9 48 (-1000000)) (by decide +kernel)
  refine lv_aload_n hx hb dX9_dear_0 rfl (lv_at hl 0 rfl) ?_
  refine lv_aload_n hx hb dX9_dear_1 rfl (lv_at hl 0 rfl) ?_
  refine va_get (ci := 8) (v := .ref (b 1)) (C := RX9) (T := TX9) (N := 8) hx hb hts hinX9 hown hK hP 0 rfl rfl 1 (by decide) hf17 (fun _ h9 => h9) rfl dX9_dear_2 ?_
  refine lv_iload_n hx hb dX9_dear_5 rfl (lv_at hl 1 rfl) ?_
  refine ldN (f := fun j => t (13 + j)) hx hb hK hP 2 rfl (j := c) (by omega) (by decide) dX9_dear_6 ?_
  refine top_i (y := (t (13 + c))) rfl ?_
  refine call_i (wr := []) (ws' := (fun _ : Unit => [(a, .inr (8, [.ref (b 0), .ref (b 1), .ref (b 2), .ref (b 3), .int (t 1), .int (t 2), .int (t 3), .int (t 0)])), ((b 0), wRef (cy 2) 8 S), ((b 1), wInt (cy 0) 8 (fun j => t (13 + j))), ((b 2), wInt (cy 0) 8 (fun j => t (21 + j))), ((b 3), wInt (cy 0) 8 (fun j => t (29 + j)))])) (va_runV (As := [.int (t (13 + c))]) (rest := []) CF (k_X9_hasCard l D cy _ a b S t (t (13 + c)) n (by first | assumption | omega | decide)) (cwV 1 hts gX9_dear_X9_hasCard rfl rfl rfl (by decide +kernel) ⟨Nat.le_of_ble_eq_true rfl, Nat.le_of_ble_eq_true rfl⟩) (pre_V hKN hP hD [0, 1, 2, 3, 4] rfl (by decide) 0 8 rfl rfl) rfl rfl hl.1 rfl (lv_room (Nat.le_of_ble_eq_true rfl)) dX9_dear_7 ⟨Nat.le_of_ble_eq_true rfl, Nat.le_of_ble_eq_true rfl⟩) hS hA hP hD [0, 1, 2, 3, 4] [] [0, 1, 2, 3, 4] rfl rfl (by decide) (by decide) (fun _ => rfl) (by decide) (fun r2 u1 H locs hw3 hP hD hS => ?_)
  replace hw3 := hw3.symm; subst hw3
  refine ifeqB (tgt := 22) hx hb dX9_dear_10 (by decide) (fun c10 => ?_) (fun c10 => ?_)
  · replace c10 : ¬ (isC n (t (13 + c))) := c10
    refine lv_ldc hx hb hown hc48 dX9_dear_22 ?_
    exact ret _ () _ _ _ _ dX9_dear_24 (by first | (rw [drF, if_pos c10]; done) | (rw [drF, if_neg c10]; done)) hP hD hS
  · replace c10 : (isC n (t (13 + c))) := c10
    refine lv_aload_n hx hb dX9_dear_13 rfl (lv_at hl 0 rfl) ?_
    refine va_get (ci := 8) (v := .ref (b 1)) (C := RX9) (T := TX9) (N := 8) hx hb hts hinX9 hown hK hP 0 rfl rfl 1 (by decide) hf17 (fun _ h9 => h9) rfl dX9_dear_14 ?_
    refine lv_iload_n hx hb dX9_dear_17 rfl (lv_at hl 1 rfl) ?_
    refine ldN (f := fun j => t (13 + j)) hx hb hK hP 2 rfl (j := c) (by omega) (by decide) dX9_dear_18 ?_
    refine top_i (y := (t (13 + c))) rfl ?_
    refine lv_goto (tgt := 24) hx hb dX9_dear_19 (by decide) ?_
    exact ret _ () _ _ _ _ dX9_dear_24 (by first | (rw [drF, if_pos c10]; done) | (rw [drF, if_neg c10]; done)) hP hD hS
set_option maxHeartbeats 4000000 in
set_option maxRecDepth 100000 in
theorem k_X9_figures (l : Launch) (D : va_G) (cy : Nat → ClassId) (sz : Nat) (a : Nat) (b : Nat → Nat) (S : Nat → Option Nat) (t : Nat → Int32) (n : Nat) (hn : n ≤ 8) (h3 : t 3 = nI n) : Met l yX9_figures wsX9_figures (rmD 0) (pPre D (TY cy) ([(a, .inr (8, [.ref (b 0), .ref (b 1), .ref (b 2), .ref (b 3), .int (t 1), .int (t 2), .int (t 3), .int (t 0)])), ((b 0), wRef (cy 2) 8 S), ((b 1), wInt (cy 0) 8 (fun j => t (13 + j))), ((b 2), wInt (cy 0) 8 (fun j => t (21 + j))), ((b 3), wInt (cy 0) 8 (fun j => t (29 + j)))]) sz [.ref a]) (pI D (TY cy) ([(a, .inr (8, [.ref (b 0), .ref (b 1), .ref (b 2), .ref (b 3), .int (t 1), .int (t 2), .int (t 3), .int (t 0)])), ((b 0), wRef (cy 2) 8 S), ((b 1), wInt (cy 0) 8 (fun j => t (13 + j))), ((b 2), wInt (cy 0) 8 (fun j => t (21 + j))), ((b 3), wInt (cy 0) 8 (fun j => t (29 + j)))]) sz (fun _ : Unit => [(a, .inr (8, [.ref (b 0), .ref (b 1), .ref (b 2), .ref (b 3), .int (t 1), .int (t 2), .int (t 3), .int (t 0)])), ((b 0), wRef (cy 2) 8 S), ((b 1), wInt (cy 0) 8 (fun j => t (13 + j))), ((b 2), wInt (cy 0) 8 (fun j => t (21 + j))), ((b 3), wInt (cy 0) 8 (fun j => t (29 + j)))]) (fun (r_ : Int32) (_ : Unit) => r_ = figN t n)) 0 0 (va_A ([(a, .inr (8, [.ref (b 0), .ref (b 1), .ref (b 2), .ref (b 3), .int (t 1), .int (t 2), .int (t 3), .int (t 0)])), ((b 0), wRef (cy 2) 8 S), ((b 1), wInt (cy 0) 8 (fun j => t (13 + j))), ((b 2), wInt (cy 0) 8 (fun j => t (21 + j))), ((b 3), wInt (cy 0) 8 (fun j => t (29 + j)))]) sz) := by
  refine ent_i (cc := cX9_figures) (maxL := 3) (by decide +kernel) rfl (Nat.le_of_ble_eq_true rfl) ?_
  intro p_ e_ s_ m_ args_ below_ meth_ c_ A_ Q_ ls B0 ret
  obtain ⟨CF, hA, hKN, hP, hD, hl⟩ := B0
  have hK := hKN.1
  obtain ⟨hx, hb, hml, hown, hts⟩ := id CF
  have hS : va_S A_ s_.heap s_.heap [] := va_S.rf
  have hl : lv_has ls 3 [(0, .ref a)] := hl
  have hf34 := hts (.fieldLink RX9 34 "DrawerCards$Shelf" "cards" "I") (by decide +kernel)
  have hinX9 := show ∀ w ∈ u_ws RX9 TX9 8, w ∈ wsX9_figures from by decide +kernel
  have hf21 := hts (.fieldLink RX9 21 "DrawerCards$Shelf" "in" "[I") (by decide +kernel)
  refine lv_iconst (v := nI 0) hx hb dX9_figures_0 (by decide) ?_
  refine lv_istore_n (lv' := [(1, .int (nI 0)), (0, .ref a)]) hx hb dX9_figures_1 rfl hl (by decide) rfl (fun ls hl => ?_)
  refine lv_iconst (v := nI 0) hx hb dX9_figures_2 (by decide) ?_
  refine lv_istore_n (lv' := [(2, .int (nI 0)), (1, .int (nI 0)), (0, .ref a)]) hx hb dX9_figures_3 rfl hl (by decide) rfl (fun ls hl => ?_)
  have lp4 : ∀ f_ : Nat, ∀ (i : Nat) (x1 : Int32), (n - i) < f_ → (i ≤ n) → (x1 = figN t i) → ∀ (H : Heap) (locs : List Loc), va_P D vwCl ([(a, .inr (8, [.ref (b 0), .ref (b 1), .ref (b 2), .ref (b 3), .int (t 1), .int (t 2), .int (t 3), .int (t 0)])), ((b 0), wRef (cy 2) 8 S), ((b 1), wInt (cy 0) 8 (fun j => t (13 + j))), ((b 2), wInt (cy 0) 8 (fun j => t (21 + j))), ((b 3), wInt (cy 0) 8 (fun j => t (29 + j)))]) H → va_D A_ ([(a, .inr (8, [.ref (b 0), .ref (b 1), .ref (b 2), .ref (b 3), .int (t 1), .int (t 2), .int (t 3), .int (t 0)])), ((b 0), wRef (cy 2) 8 S), ((b 1), wInt (cy 0) 8 (fun j => t (13 + j))), ((b 2), wInt (cy 0) 8 (fun j => t (21 + j))), ((b 3), wInt (cy 0) 8 (fun j => t (29 + j)))]) → va_S A_ s_.heap H locs → ∀ ls : Array Slot, lv_has ls 3 [(0, .ref a), (1, .int x1), (2, .int (nI i))] → W p_ l e_ (rmD 0) s_ m_ args_ below_ meth_ c_ H locs 0 0 Q_ (F0 m_ 4 ls []) := by
    intro f_
    induction f_ with
    | zero => intro i x1 hm_; exact absurd hm_ (by omega)
    | succ f_ ih4 =>
      intro i x1 hm_ hi e1 H locs hP hD hS ls hl
      refine lv_iload_n hx hb dX9_figures_4 rfl (lv_at hl 2 rfl) ?_
      refine lv_aload_n hx hb dX9_figures_5 rfl (lv_at hl 0 rfl) ?_
      refine va_get (ci := 8) (v := .int (t 3)) (C := RX9) (T := TX9) (N := 8) hx hb hts hinX9 hown hK hP 0 rfl rfl 6 (by decide) hf34 (fun _ h9 => h9) rfl dX9_figures_6 ?_
      refine top_i h3 ?_
      refine geN (tgt := 30) hx hb (by omega) (by omega) dX9_figures_9 (by decide) (fun c9 => ?_) (fun c9 => ?_)
      · refine lv_iload_n hx hb dX9_figures_30 rfl (lv_at hl 1 rfl) ?_
        exact ret _ () _ _ _ _ dX9_figures_31 (by rw [e1, show i = n by omega]) hP hD hS
      · refine lv_iload_n hx hb dX9_figures_12 rfl (lv_at hl 1 rfl) ?_
        refine lv_bipush (v := nI 10) hx hb dX9_figures_13 (by decide) ?_
        refine lv_imul hx hb dX9_figures_15 ?_
        refine lv_aload_n hx hb dX9_figures_16 rfl (lv_at hl 0 rfl) ?_
        refine va_get (ci := 8) (v := .ref (b 2)) (C := RX9) (T := TX9) (N := 8) hx hb hts hinX9 hown hK hP 0 rfl rfl 2 (by decide) hf21 (fun _ h9 => h9) rfl dX9_figures_17 ?_
        refine lv_iload_n hx hb dX9_figures_20 rfl (lv_at hl 2 rfl) ?_
        refine ldN (f := fun j => t (21 + j)) hx hb hK hP 3 rfl (j := i) (by omega) (by decide) dX9_figures_21 ?_
        refine top_i (y := (t (21 + i))) rfl ?_
        refine lv_iadd hx hb dX9_figures_22 ?_
        refine lv_istore_n (lv' := [(1, .int ((x1 * nI 10) + t (21 + i))), (0, .ref a), (2, .int (nI i))]) hx hb dX9_figures_23 rfl hl (by decide) rfl (fun ls hl => ?_)
        refine lv_iinc (v := nI (i + 1)) (lv' := [(2, .int (nI (i + 1))), (1, .int ((x1 * nI 10) + t (21 + i))), (0, .ref a)]) hx hb dX9_figures_24 hl (k := 2) rfl (nI_1 _) (by decide) rfl (fun ls hl => ?_)
        refine lv_goto (tgt := 4) hx hb dX9_figures_27 (by decide) ?_
        exact ih4 (i + 1) ((x1 * nI 10) + t (21 + i)) (by omega) (by omega) (by rw [figN, ← e1, Int32.mul_comm]) _ _ hP hD hS ls (lv_sub hl [2, 1, 0] rfl)
  exact lp4 (n - 0 + 1) 0 (nI 0) (by omega) (by omega) rfl _ _ hP hD hS ls (lv_sub hl [2, 1, 0] rfl)
set_option maxHeartbeats 4000000 in
set_option maxRecDepth 100000 in
theorem k_X9_mateBits (l : Launch) (D : va_G) (cy : Nat → ClassId) (sz : Nat) (a : Nat) (b : Nat → Nat) (S : Nat → Option Nat) (t : Nat → Int32) (n : Nat) (hn : n ≤ 8) (h3 : t 3 = nI n) : Met l yX9_mateBits wsX9_mateBits (rmD 2) (pPre D (TY cy) ([(a, .inr (8, [.ref (b 0), .ref (b 1), .ref (b 2), .ref (b 3), .int (t 1), .int (t 2), .int (t 3), .int (t 0)])), ((b 0), wRef (cy 2) 8 S), ((b 1), wInt (cy 0) 8 (fun j => t (13 + j))), ((b 2), wInt (cy 0) 8 (fun j => t (21 + j))), ((b 3), wInt (cy 0) 8 (fun j => t (29 + j)))]) sz [.ref a]) (pI D (TY cy) ([(a, .inr (8, [.ref (b 0), .ref (b 1), .ref (b 2), .ref (b 3), .int (t 1), .int (t 2), .int (t 3), .int (t 0)])), ((b 0), wRef (cy 2) 8 S), ((b 1), wInt (cy 0) 8 (fun j => t (13 + j))), ((b 2), wInt (cy 0) 8 (fun j => t (21 + j))), ((b 3), wInt (cy 0) 8 (fun j => t (29 + j)))]) sz (fun _ : Unit => [(a, .inr (8, [.ref (b 0), .ref (b 1), .ref (b 2), .ref (b 3), .int (t 1), .int (t 2), .int (t 3), .int (t 0)])), ((b 0), wRef (cy 2) 8 S), ((b 1), wInt (cy 0) 8 (fun j => t (13 + j))), ((b 2), wInt (cy 0) 8 (fun j => t (21 + j))), ((b 3), wInt (cy 0) 8 (fun j => t (29 + j)))]) (fun (r_ : Int32) (_ : Unit) => r_ = mtF t n n)) 0 0 (va_A ([(a, .inr (8, [.ref (b 0), .ref (b 1), .ref (b 2), .ref (b 3), .int (t 1), .int (t 2), .int (t 3), .int (t 0)])), ((b 0), wRef (cy 2) 8 S), ((b 1), wInt (cy 0) 8 (fun j => t (13 + j))), ((b 2), wInt (cy 0) 8 (fun j => t (21 + j))), ((b 3), wInt (cy 0) 8 (fun j => t (29 + j)))]) sz) := by
  refine ent_i (cc := cX9_mateBits) (maxL := 4) (by decide +kernel) rfl (Nat.le_of_ble_eq_true rfl) ?_
  intro p_ e_ s_ m_ args_ below_ meth_ c_ A_ Q_ ls B0 ret
  obtain ⟨CF, hA, hKN, hP, hD, hl⟩ := B0
  have hK := hKN.1
  obtain ⟨hx, hb, hml, hown, hts⟩ := id CF
  have hS : va_S A_ s_.heap s_.heap [] := va_S.rf
  have hl : lv_has ls 4 [(0, .ref a)] := hl
  have hf34 := hts (.fieldLink RX9 34 "DrawerCards$Shelf" "cards" "I") (by decide +kernel)
  have hinX9 := show ∀ w ∈ u_ws RX9 TX9 8, w ∈ wsX9_mateBits from by decide +kernel
  have hc48 := hts (.constant RX9 48 (-1000000)) (by decide +kernel)
  have hf21 := hts (.fieldLink RX9 21 "DrawerCards$Shelf" "in" "[I") (by decide +kernel)
  have hf24 := hts (.fieldLink RX9 24 "DrawerCards$Shelf" "place" "[I") (by decide +kernel)
  refine lv_iconst (v := nI 0) hx hb dX9_mateBits_0 (by decide) ?_
  refine lv_istore_n (lv' := [(1, .int (nI 0)), (0, .ref a)]) hx hb dX9_mateBits_1 rfl hl (by decide) rfl (fun ls hl => ?_)
  refine lv_iconst (v := nI 0) hx hb dX9_mateBits_2 (by decide) ?_
  refine lv_istore_n (lv' := [(2, .int (nI 0)), (1, .int (nI 0)), (0, .ref a)]) hx hb dX9_mateBits_3 rfl hl (by decide) rfl (fun ls hl => ?_)
  have lp4 : ∀ f_ : Nat, ∀ (i : Nat) (x1 : Int32), (n - i) < f_ → (i ≤ n) → (x1 = mtF t n i) → ∀ (H : Heap) (locs : List Loc), va_P D vwCl ([(a, .inr (8, [.ref (b 0), .ref (b 1), .ref (b 2), .ref (b 3), .int (t 1), .int (t 2), .int (t 3), .int (t 0)])), ((b 0), wRef (cy 2) 8 S), ((b 1), wInt (cy 0) 8 (fun j => t (13 + j))), ((b 2), wInt (cy 0) 8 (fun j => t (21 + j))), ((b 3), wInt (cy 0) 8 (fun j => t (29 + j)))]) H → va_D A_ ([(a, .inr (8, [.ref (b 0), .ref (b 1), .ref (b 2), .ref (b 3), .int (t 1), .int (t 2), .int (t 3), .int (t 0)])), ((b 0), wRef (cy 2) 8 S), ((b 1), wInt (cy 0) 8 (fun j => t (13 + j))), ((b 2), wInt (cy 0) 8 (fun j => t (21 + j))), ((b 3), wInt (cy 0) 8 (fun j => t (29 + j)))]) → va_S A_ s_.heap H locs → ∀ ls : Array Slot, lv_has ls 4 [(0, .ref a), (1, .int x1), (2, .int (nI i))] → W p_ l e_ (rmD 2) s_ m_ args_ below_ meth_ c_ H locs 0 0 Q_ (F0 m_ 4 ls []) := by
    intro f_
    induction f_ with
    | zero => intro i x1 hm_; exact absurd hm_ (by omega)
    | succ f_ ih4 =>
      intro i x1 hm_ hi e1 H locs hP hD hS ls hl
      refine lv_iload_n hx hb dX9_mateBits_4 rfl (lv_at hl 2 rfl) ?_
      refine lv_aload_n hx hb dX9_mateBits_5 rfl (lv_at hl 0 rfl) ?_
      refine va_get (ci := 8) (v := .int (t 3)) (C := RX9) (T := TX9) (N := 8) hx hb hts hinX9 hown hK hP 0 rfl rfl 6 (by decide) hf34 (fun _ h9 => h9) rfl dX9_mateBits_6 ?_
      refine top_i h3 ?_
      refine geN (tgt := 68) hx hb (by omega) (by omega) dX9_mateBits_9 (by decide) (fun c9 => ?_) (fun c9 => ?_)
      · refine lv_iload_n hx hb dX9_mateBits_68 rfl (lv_at hl 1 rfl) ?_
        exact ret _ () _ _ _ _ dX9_mateBits_69 (by rw [e1, show i = n by omega]) hP hD hS
      · refine lv_aload_n hx hb dX9_mateBits_12 rfl (lv_at hl 0 rfl) ?_
        refine lv_iload_n hx hb dX9_mateBits_13 rfl (lv_at hl 2 rfl) ?_
        refine call_i (wr := []) (ws' := (fun _ : Unit => [(a, .inr (8, [.ref (b 0), .ref (b 1), .ref (b 2), .ref (b 3), .int (t 1), .int (t 2), .int (t 3), .int (t 0)])), ((b 0), wRef (cy 2) 8 S), ((b 1), wInt (cy 0) 8 (fun j => t (13 + j))), ((b 2), wInt (cy 0) 8 (fun j => t (21 + j))), ((b 3), wInt (cy 0) 8 (fun j => t (29 + j)))])) (va_runV (As := [.int (nI i)]) (rest := []) CF (k_X9_dear l D cy _ a b S t i n (by first | assumption | omega | decide) (by first | assumption | omega | decide) (by first | assumption | omega | decide)) (cwV 1 hts gX9_mateBits_X9_dear rfl rfl rfl (by decide +kernel) ⟨Nat.le_of_ble_eq_true rfl, Nat.le_of_ble_eq_true rfl⟩) (pre_V hKN hP hD [0, 1, 2, 3, 4] rfl (by decide) 0 8 rfl rfl) rfl rfl hl.1 rfl (lv_room (Nat.le_of_ble_eq_true rfl)) dX9_mateBits_14 ⟨Nat.le_of_ble_eq_true rfl, Nat.le_of_ble_eq_true rfl⟩) hS hA hP hD [0, 1, 2, 3, 4] [] [0, 1, 2, 3, 4] rfl rfl (by decide) (by decide) (fun _ => rfl) (by decide) (fun r2 u1 H locs hw3 hP hD hS => ?_)
        replace hw3 := hw3.symm; subst hw3
        refine lv_istore_n (lv' := [(3, .int (drF t n i)), (0, .ref a), (1, .int x1), (2, .int (nI i))]) hx hb dX9_mateBits_17 rfl hl (by decide) rfl (fun ls hl => ?_)
        refine lv_iload_n hx hb dX9_mateBits_18 rfl (lv_at hl 0 rfl) ?_
        refine lv_ldc hx hb hown hc48 dX9_mateBits_19 ?_
        refine lv_icmp_eq (tgt := 62) hx hb dX9_mateBits_21 (by decide) (fun c21 => ?_) (fun c21 => ?_)
        · refine lv_iinc (v := nI (i + 1)) (lv' := [(2, .int (nI (i + 1))), (3, .int (drF t n i)), (0, .ref a), (1, .int x1)]) hx hb dX9_mateBits_62 hl (k := 3) rfl (nI_1 _) (by decide) rfl (fun ls hl => ?_)
          refine lv_goto (tgt := 4) hx hb dX9_mateBits_65 (by decide) ?_
          exact ih4 (i + 1) x1 (by omega) (by omega) (by rw [mtF, ← e1, if_neg (fun z => by first | exact z.1 c21 | (rw [ekc] at z; first | exact c36 z.2.1 | exact c53 z.2.2))]) _ _ hP hD hS ls (lv_sub hl [2, 3, 0] rfl)
        · obtain ⟨k, hk, ek⟩ := drF_nat (by omega) c21
          have ekc : cl (drF t n i) = k := (by rw [ek]; exact nI_clamp (by omega))
          rw [ek] at hl
          refine lv_aload_n hx hb dX9_mateBits_24 rfl (lv_at hl 1 rfl) ?_
          refine va_get (ci := 8) (v := .ref (b 2)) (C := RX9) (T := TX9) (N := 8) hx hb hts hinX9 hown hK hP 0 rfl rfl 2 (by decide) hf21 (fun _ h9 => h9) rfl dX9_mateBits_25 ?_
          refine lv_iload_n hx hb dX9_mateBits_28 rfl (lv_at hl 0 rfl) ?_
          refine ldN (f := fun j => t (21 + j)) hx hb hK hP 3 rfl (j := k) (by omega) (by decide) dX9_mateBits_29 ?_
          refine top_i (y := (t (21 + k))) rfl ?_
          refine lv_aload_n hx hb dX9_mateBits_30 rfl (lv_at hl 1 rfl) ?_
          refine va_get (ci := 8) (v := .ref (b 2)) (C := RX9) (T := TX9) (N := 8) hx hb hts hinX9 hown hK hP 0 rfl rfl 2 (by decide) hf21 (fun _ h9 => h9) rfl dX9_mateBits_31 ?_
          refine lv_iload_n hx hb dX9_mateBits_34 rfl (lv_at hl 3 rfl) ?_
          refine ldN (f := fun j => t (21 + j)) hx hb hK hP 3 rfl (j := i) (by omega) (by decide) dX9_mateBits_35 ?_
          refine top_i (y := (t (21 + i))) rfl ?_
          refine lv_icmp_ne (tgt := 62) hx hb dX9_mateBits_36 (by decide) (fun c36 => ?_) (fun c36 => ?_)
          · refine lv_iinc (v := nI (i + 1)) (lv' := [(2, .int (nI (i + 1))), (3, .int (nI k)), (0, .ref a), (1, .int x1)]) hx hb dX9_mateBits_62 hl (k := 3) rfl (nI_1 _) (by decide) rfl (fun ls hl => ?_)
            refine lv_goto (tgt := 4) hx hb dX9_mateBits_65 (by decide) ?_
            exact ih4 (i + 1) x1 (by omega) (by omega) (by rw [mtF, ← e1, if_neg (fun z => by first | exact z.1 c21 | (rw [ekc] at z; first | exact c36 z.2.1 | exact c53 z.2.2))]) _ _ hP hD hS ls (lv_sub hl [2, 3, 0] rfl)
          · refine lv_aload_n hx hb dX9_mateBits_39 rfl (lv_at hl 1 rfl) ?_
            refine va_get (ci := 8) (v := .ref (b 3)) (C := RX9) (T := TX9) (N := 8) hx hb hts hinX9 hown hK hP 0 rfl rfl 3 (by decide) hf24 (fun _ h9 => h9) rfl dX9_mateBits_40 ?_
            refine lv_iload_n hx hb dX9_mateBits_43 rfl (lv_at hl 0 rfl) ?_
            refine ldN (f := fun j => t (29 + j)) hx hb hK hP 4 rfl (j := k) (by omega) (by decide) dX9_mateBits_44 ?_
            refine top_i (y := (t (29 + k))) rfl ?_
            refine lv_aload_n hx hb dX9_mateBits_45 rfl (lv_at hl 1 rfl) ?_
            refine va_get (ci := 8) (v := .ref (b 3)) (C := RX9) (T := TX9) (N := 8) hx hb hts hinX9 hown hK hP 0 rfl rfl 3 (by decide) hf24 (fun _ h9 => h9) rfl dX9_mateBits_46 ?_
            refine lv_iload_n hx hb dX9_mateBits_49 rfl (lv_at hl 3 rfl) ?_
            refine ldN (f := fun j => t (29 + j)) hx hb hK hP 4 rfl (j := i) (by omega) (by decide) dX9_mateBits_50 ?_
            refine top_i (y := (t (29 + i))) rfl ?_
            refine lv_iconst (v := nI 1) hx hb dX9_mateBits_51 (by decide) ?_
            refine lv_isub hx hb dX9_mateBits_52 ?_
            refine lv_icmp_ne (tgt := 62) hx hb dX9_mateBits_53 (by decide) (fun c53 => ?_) (fun c53 => ?_)
            · refine lv_iinc (v := nI (i + 1)) (lv' := [(2, .int (nI (i + 1))), (3, .int (nI k)), (0, .ref a), (1, .int x1)]) hx hb dX9_mateBits_62 hl (k := 3) rfl (nI_1 _) (by decide) rfl (fun ls hl => ?_)
              refine lv_goto (tgt := 4) hx hb dX9_mateBits_65 (by decide) ?_
              exact ih4 (i + 1) x1 (by omega) (by omega) (by rw [mtF, ← e1, if_neg (fun z => by first | exact z.1 c21 | (rw [ekc] at z; first | exact c36 z.2.1 | exact c53 z.2.2))]) _ _ hP hD hS ls (lv_sub hl [2, 3, 0] rfl)
            · refine lv_iload_n hx hb dX9_mateBits_56 rfl (lv_at hl 2 rfl) ?_
              refine lv_iconst (v := nI 1) hx hb dX9_mateBits_57 (by decide) ?_
              refine lv_iload_n hx hb dX9_mateBits_58 rfl (lv_at hl 3 rfl) ?_
              refine lv_ishl hx hb dX9_mateBits_59 ?_
              refine lv_ior hx hb dX9_mateBits_60 ?_
              refine lv_istore_n (lv' := [(1, .int (x1 ||| (nI 1 <<< (nI i &&& 31)))), (3, .int (nI k)), (0, .ref a), (2, .int (nI i))]) hx hb dX9_mateBits_61 rfl hl (by decide) rfl (fun ls hl => ?_)
              refine lv_iinc (v := nI (i + 1)) (lv' := [(2, .int (nI (i + 1))), (1, .int (x1 ||| (nI 1 <<< (nI i &&& 31)))), (3, .int (nI k)), (0, .ref a)]) hx hb dX9_mateBits_62 hl (k := 3) rfl (nI_1 _) (by decide) rfl (fun ls hl => ?_)
              refine lv_goto (tgt := 4) hx hb dX9_mateBits_65 (by decide) ?_
              exact ih4 (i + 1) (x1 ||| (nI 1 <<< (nI i &&& 31))) (by omega) (by omega) (by rw [mtF, ← e1, if_pos ⟨c21, (by rw [ekc]; exact c36), (by rw [ekc]; exact c53)⟩]) _ _ hP hD hS ls (lv_sub hl [3, 1, 0] rfl)
  exact lp4 (n - 0 + 1) 0 (nI 0) (by omega) (by omega) rfl _ _ hP hD hS ls (lv_sub hl [2, 1, 0] rfl)
