set_option maxHeartbeats 4000000 in
set_option maxRecDepth 100000 in
theorem k_X9_standsAs (l : Launch) (D : va_G) (cy : Nat → ClassId) (sz : Nat) (a : Nat) (b : Nat → Nat) (S : Nat → Option Nat) (t : Nat → Int32) (a2 : Nat) (b2 : Nat → Nat) (S2 : Nat → Option Nat) (t2 : Nat → Int32) (n : Nat) (hn : n ≤ 8) (h3 : t 3 = nI n) : Met l yX9_standsAs wsX9_standsAs (rmD 0) (pPre D (TY cy) ([(a, .inr (8, [.ref (b 0), .ref (b 1), .ref (b 2), .ref (b 3), .int (t 1), .int (t 2), .int (t 3), .int (t 0)])), ((b 0), wRef (cy 2) 8 S), ((b 1), wInt (cy 0) 8 (fun j => t (13 + j))), ((b 2), wInt (cy 0) 8 (fun j => t (21 + j))), ((b 3), wInt (cy 0) 8 (fun j => t (29 + j))), (a2, .inr (8, [.ref (b2 0), .ref (b2 1), .ref (b2 2), .ref (b2 3), .int (t2 1), .int (t2 2), .int (t2 3), .int (t2 0)])), ((b2 0), wRef (cy 2) 8 S2), ((b2 1), wInt (cy 0) 8 (fun j => t2 (13 + j))), ((b2 2), wInt (cy 0) 8 (fun j => t2 (21 + j))), ((b2 3), wInt (cy 0) 8 (fun j => t2 (29 + j)))]) sz [.ref a, .ref a2]) (pI D (TY cy) ([(a, .inr (8, [.ref (b 0), .ref (b 1), .ref (b 2), .ref (b 3), .int (t 1), .int (t 2), .int (t 3), .int (t 0)])), ((b 0), wRef (cy 2) 8 S), ((b 1), wInt (cy 0) 8 (fun j => t (13 + j))), ((b 2), wInt (cy 0) 8 (fun j => t (21 + j))), ((b 3), wInt (cy 0) 8 (fun j => t (29 + j))), (a2, .inr (8, [.ref (b2 0), .ref (b2 1), .ref (b2 2), .ref (b2 3), .int (t2 1), .int (t2 2), .int (t2 3), .int (t2 0)])), ((b2 0), wRef (cy 2) 8 S2), ((b2 1), wInt (cy 0) 8 (fun j => t2 (13 + j))), ((b2 2), wInt (cy 0) 8 (fun j => t2 (21 + j))), ((b2 3), wInt (cy 0) 8 (fun j => t2 (29 + j)))]) sz (fun _ : Unit => [(a, .inr (8, [.ref (b 0), .ref (b 1), .ref (b 2), .ref (b 3), .int (t 1), .int (t 2), .int (t 3), .int (t 0)])), ((b 0), wRef (cy 2) 8 S), ((b 1), wInt (cy 0) 8 (fun j => t (13 + j))), ((b 2), wInt (cy 0) 8 (fun j => t (21 + j))), ((b 3), wInt (cy 0) 8 (fun j => t (29 + j))), (a2, .inr (8, [.ref (b2 0), .ref (b2 1), .ref (b2 2), .ref (b2 3), .int (t2 1), .int (t2 2), .int (t2 3), .int (t2 0)])), ((b2 0), wRef (cy 2) 8 S2), ((b2 1), wInt (cy 0) 8 (fun j => t2 (13 + j))), ((b2 2), wInt (cy 0) 8 (fun j => t2 (21 + j))), ((b2 3), wInt (cy 0) 8 (fun j => t2 (29 + j)))]) (fun (r_ : Int32) (_ : Unit) => r_ = bI (asNb t t2 n = true))) 0 0 (va_A ([(a, .inr (8, [.ref (b 0), .ref (b 1), .ref (b 2), .ref (b 3), .int (t 1), .int (t 2), .int (t 3), .int (t 0)])), ((b 0), wRef (cy 2) 8 S), ((b 1), wInt (cy 0) 8 (fun j => t (13 + j))), ((b 2), wInt (cy 0) 8 (fun j => t (21 + j))), ((b 3), wInt (cy 0) 8 (fun j => t (29 + j))), (a2, .inr (8, [.ref (b2 0), .ref (b2 1), .ref (b2 2), .ref (b2 3), .int (t2 1), .int (t2 2), .int (t2 3), .int (t2 0)])), ((b2 0), wRef (cy 2) 8 S2), ((b2 1), wInt (cy 0) 8 (fun j => t2 (13 + j))), ((b2 2), wInt (cy 0) 8 (fun j => t2 (21 + j))), ((b2 3), wInt (cy 0) 8 (fun j => t2 (29 + j)))]) sz) := by
  refine ent_z (cc := cX9_standsAs) (maxL := 3) (by decide +kernel) rfl (Nat.le_of_ble_eq_true rfl) ?_
  intro p_ e_ s_ m_ args_ below_ meth_ c_ A_ Q_ ls B0 ret
  obtain ⟨CF, hA, hKN, hP, hD, hl⟩ := B0
  have hK := hKN.1
  obtain ⟨hx, hb, hml, hown, hts⟩ := id CF
  have hS : va_S A_ s_.heap s_.heap [] := va_S.rf
  have hl : lv_has ls 3 [(0, .ref a), (1, .ref a2)] := hl
  have hf34 := hts (.fieldLink RX9 34 "DrawerCards$Shelf" "cards" "I") (by decide +kernel)
  have hinX9 := show ∀ w ∈ u_ws RX9 TX9 8, w ∈ wsX9_standsAs from by decide +kernel
  have hf21 := hts (.fieldLink RX9 21 "DrawerCards$Shelf" "in" "[I") (by decide +kernel)
  have hf24 := hts (.fieldLink RX9 24 "DrawerCards$Shelf" "place" "[I") (by decide +kernel)
  refine lv_iconst (v := nI 0) hx hb dX9_standsAs_0 (by decide) ?_
  refine lv_istore_n (lv' := [(2, .int (nI 0)), (0, .ref a), (1, .ref a2)]) hx hb dX9_standsAs_1 rfl hl (by decide) rfl (fun ls hl => ?_)
  have lp2 : ∀ f_ : Nat, ∀ (i : Nat), (n - i) < f_ → (i ≤ n) → (asNb t t2 i = true) → ∀ (H : Heap) (locs : List Loc), va_P D vwCl ([(a, .inr (8, [.ref (b 0), .ref (b 1), .ref (b 2), .ref (b 3), .int (t 1), .int (t 2), .int (t 3), .int (t 0)])), ((b 0), wRef (cy 2) 8 S), ((b 1), wInt (cy 0) 8 (fun j => t (13 + j))), ((b 2), wInt (cy 0) 8 (fun j => t (21 + j))), ((b 3), wInt (cy 0) 8 (fun j => t (29 + j))), (a2, .inr (8, [.ref (b2 0), .ref (b2 1), .ref (b2 2), .ref (b2 3), .int (t2 1), .int (t2 2), .int (t2 3), .int (t2 0)])), ((b2 0), wRef (cy 2) 8 S2), ((b2 1), wInt (cy 0) 8 (fun j => t2 (13 + j))), ((b2 2), wInt (cy 0) 8 (fun j => t2 (21 + j))), ((b2 3), wInt (cy 0) 8 (fun j => t2 (29 + j)))]) H → va_D A_ ([(a, .inr (8, [.ref (b 0), .ref (b 1), .ref (b 2), .ref (b 3), .int (t 1), .int (t 2), .int (t 3), .int (t 0)])), ((b 0), wRef (cy 2) 8 S), ((b 1), wInt (cy 0) 8 (fun j => t (13 + j))), ((b 2), wInt (cy 0) 8 (fun j => t (21 + j))), ((b 3), wInt (cy 0) 8 (fun j => t (29 + j))), (a2, .inr (8, [.ref (b2 0), .ref (b2 1), .ref (b2 2), .ref (b2 3), .int (t2 1), .int (t2 2), .int (t2 3), .int (t2 0)])), ((b2 0), wRef (cy 2) 8 S2), ((b2 1), wInt (cy 0) 8 (fun j => t2 (13 + j))), ((b2 2), wInt (cy 0) 8 (fun j => t2 (21 + j))), ((b2 3), wInt (cy 0) 8 (fun j => t2 (29 + j)))]) → va_S A_ s_.heap H locs → ∀ ls : Array Slot, lv_has ls 3 [(0, .ref a), (1, .ref a2), (2, .int (nI i))] → W p_ l e_ (rmD 0) s_ m_ args_ below_ meth_ c_ H locs 0 0 Q_ (F0 m_ 2 ls []) := by
    intro f_
    induction f_ with
    | zero => intro i hm_; exact absurd hm_ (by omega)
    | succ f_ ih2 =>
      intro i hm_ hi e1 H locs hP hD hS ls hl
      refine lv_iload_n hx hb dX9_standsAs_2 rfl (lv_at hl 2 rfl) ?_
      refine lv_aload_n hx hb dX9_standsAs_3 rfl (lv_at hl 0 rfl) ?_
      refine va_get (ci := 8) (v := .int (t 3)) (C := RX9) (T := TX9) (N := 8) hx hb hts hinX9 hown hK hP 0 rfl rfl 6 (by decide) hf34 (fun _ h9 => h9) rfl dX9_standsAs_4 ?_
      refine top_i h3 ?_
      refine geN (tgt := 48) hx hb (by omega) (by omega) dX9_standsAs_7 (by decide) (fun c7 => ?_) (fun c7 => ?_)
      · refine lv_iconst (v := nI 1) hx hb dX9_standsAs_48 (by decide) ?_
        exact ret _ () _ _ _ _ dX9_standsAs_49 rfl (by rw [bI_t (by rw [show n = i by omega]; exact e1)]; rfl) hP hD hS
      · refine lv_aload_n hx hb dX9_standsAs_10 rfl (lv_at hl 0 rfl) ?_
        refine va_get (ci := 8) (v := .ref (b 2)) (C := RX9) (T := TX9) (N := 8) hx hb hts hinX9 hown hK hP 0 rfl rfl 2 (by decide) hf21 (fun _ h9 => h9) rfl dX9_standsAs_11 ?_
        refine lv_iload_n hx hb dX9_standsAs_14 rfl (lv_at hl 2 rfl) ?_
        refine ldN (f := fun j => t (21 + j)) hx hb hK hP 3 rfl (j := i) (by omega) (by decide) dX9_standsAs_15 ?_
        refine top_i (y := (t (21 + i))) rfl ?_
        refine lv_aload_n hx hb dX9_standsAs_16 rfl (lv_at hl 1 rfl) ?_
        refine va_get (ci := 8) (v := .ref (b2 2)) (C := RX9) (T := TX9) (N := 8) hx hb hts hinX9 hown hK hP 5 rfl rfl 2 (by decide) hf21 (fun _ h9 => h9) rfl dX9_standsAs_17 ?_
        refine lv_iload_n hx hb dX9_standsAs_20 rfl (lv_at hl 2 rfl) ?_
        refine ldN (f := fun j => t2 (21 + j)) hx hb hK hP 8 rfl (j := i) (by omega) (by decide) dX9_standsAs_21 ?_
        refine top_i (y := (t2 (21 + i))) rfl ?_
        refine lv_icmp_ne (tgt := 40) hx hb dX9_standsAs_22 (by decide) (fun c22 => ?_) (fun c22 => ?_)
        · refine lv_iconst (v := nI 0) hx hb dX9_standsAs_40 (by decide) ?_
          exact ret _ () _ _ _ _ dX9_standsAs_41 rfl (by rw [bI_f (asNb_no (fun z => by first | exact c22 z.1 | exact c37 z.2) n (by omega))]; rfl) hP hD hS
        · refine lv_aload_n hx hb dX9_standsAs_25 rfl (lv_at hl 0 rfl) ?_
          refine va_get (ci := 8) (v := .ref (b 3)) (C := RX9) (T := TX9) (N := 8) hx hb hts hinX9 hown hK hP 0 rfl rfl 3 (by decide) hf24 (fun _ h9 => h9) rfl dX9_standsAs_26 ?_
          refine lv_iload_n hx hb dX9_standsAs_29 rfl (lv_at hl 2 rfl) ?_
          refine ldN (f := fun j => t (29 + j)) hx hb hK hP 4 rfl (j := i) (by omega) (by decide) dX9_standsAs_30 ?_
          refine top_i (y := (t (29 + i))) rfl ?_
          refine lv_aload_n hx hb dX9_standsAs_31 rfl (lv_at hl 1 rfl) ?_
          refine va_get (ci := 8) (v := .ref (b2 3)) (C := RX9) (T := TX9) (N := 8) hx hb hts hinX9 hown hK hP 5 rfl rfl 3 (by decide) hf24 (fun _ h9 => h9) rfl dX9_standsAs_32 ?_
          refine lv_iload_n hx hb dX9_standsAs_35 rfl (lv_at hl 2 rfl) ?_
          refine ldN (f := fun j => t2 (29 + j)) hx hb hK hP 9 rfl (j := i) (by omega) (by decide) dX9_standsAs_36 ?_
          refine top_i (y := (t2 (29 + i))) rfl ?_
          refine lv_icmp_eq (tgt := 42) hx hb dX9_standsAs_37 (by decide) (fun c37 => ?_) (fun c37 => ?_)
          · refine lv_iinc (v := nI (i + 1)) (lv' := [(2, .int (nI (i + 1))), (0, .ref a), (1, .ref a2)]) hx hb dX9_standsAs_42 hl (k := 2) rfl (nI_1 _) (by decide) rfl (fun ls hl => ?_)
            refine lv_goto (tgt := 2) hx hb dX9_standsAs_45 (by decide) ?_
            exact ih2 (i + 1) (by omega) (by omega) (asNb_s e1 c22 c37) _ _ hP hD hS ls (lv_sub hl [1, 2, 0] rfl)
          · refine lv_iconst (v := nI 0) hx hb dX9_standsAs_40 (by decide) ?_
            exact ret _ () _ _ _ _ dX9_standsAs_41 rfl (by rw [bI_f (asNb_no (fun z => by first | exact c22 z.1 | exact c37 z.2) n (by omega))]; rfl) hP hD hS
  exact lp2 (n - 0 + 1) 0 (by omega) (by omega) rfl _ _ hP hD hS ls (lv_sub hl [1, 2, 0] rfl)
set_option maxHeartbeats 4000000 in
set_option maxRecDepth 100000 in
theorem k_X9_stand (l : Launch) (D : va_G) (cy : Nat → ClassId) (sz : Nat) (a : Nat) (b : Nat → Nat) (S : Nat → Option Nat) (t : Nat → Int32) (c : Nat) (d : Int32) (o : Int32) (n : Nat) (hn : n ≤ 8) (h3 : t 3 = nI n) (hc : c < n) : Met l yX9_stand wsX9_stand (rmD 1) (pPre D (TY cy) ([(a, .inr (8, [.ref (b 0), .ref (b 1), .ref (b 2), .ref (b 3), .int (t 1), .int (t 2), .int (t 3), .int (t 0)])), ((b 0), wRef (cy 2) 8 S), ((b 1), wInt (cy 0) 8 (fun j => t (13 + j))), ((b 2), wInt (cy 0) 8 (fun j => t (21 + j))), ((b 3), wInt (cy 0) 8 (fun j => t (29 + j)))]) sz [.ref a, .int (nI c), .int d, .int o]) (pV D (TY cy) ([(a, .inr (8, [.ref (b 0), .ref (b 1), .ref (b 2), .ref (b 3), .int (t 1), .int (t 2), .int (t 3), .int (t 0)])), ((b 0), wRef (cy 2) 8 S), ((b 1), wInt (cy 0) 8 (fun j => t (13 + j))), ((b 2), wInt (cy 0) 8 (fun j => t (21 + j))), ((b 3), wInt (cy 0) 8 (fun j => t (29 + j)))]) sz (fun t2 : Nat → Int32 => [(a, .inr (8, [.ref (b 0), .ref (b 1), .ref (b 2), .ref (b 3), .int (t2 1), .int (t2 2), .int (t2 3), .int (t2 0)])), ((b 0), wRef (cy 2) 8 S), ((b 1), wInt (cy 0) 8 (fun j => t2 (13 + j))), ((b 2), wInt (cy 0) 8 (fun j => t2 (21 + j))), ((b 3), wInt (cy 0) 8 (fun j => t2 (29 + j)))]) (fun (u : (Nat → Int32)) => u = stS t n c d o)) 0 0 (va_A ([(a, .inr (8, [.ref (b 0), .ref (b 1), .ref (b 2), .ref (b 3), .int (t 1), .int (t 2), .int (t 3), .int (t 0)])), ((b 0), wRef (cy 2) 8 S), ((b 1), wInt (cy 0) 8 (fun j => t (13 + j))), ((b 2), wInt (cy 0) 8 (fun j => t (21 + j))), ((b 3), wInt (cy 0) 8 (fun j => t (29 + j)))]) sz) := by
  refine ent_v (cc := cX9_stand) (maxL := 6) (by decide +kernel) rfl (Nat.le_of_ble_eq_true rfl) ?_
  intro p_ e_ s_ m_ args_ below_ meth_ c_ A_ Q_ ls B0 ret
  obtain ⟨CF, hA, hKN, hP, hD, hl⟩ := B0
  have hK := hKN.1
  obtain ⟨hx, hb, hml, hown, hts⟩ := id CF
  have hS : va_S A_ s_.heap s_.heap [] := va_S.rf
  have hl : lv_has ls 6 [(0, .ref a), (1, .int (nI c)), (2, .int d), (3, .int o)] := hl
  have hf34 := hts (.fieldLink RX9 34 "DrawerCards$Shelf" "cards" "I") (by decide +kernel)
  have hinX9 := show ∀ w ∈ u_ws RX9 TX9 8, w ∈ wsX9_stand from by decide +kernel
  have hf21 := hts (.fieldLink RX9 21 "DrawerCards$Shelf" "in" "[I") (by decide +kernel)
  have hf24 := hts (.fieldLink RX9 24 "DrawerCards$Shelf" "place" "[I") (by decide +kernel)
  refine lv_iconst (v := nI 0) hx hb dX9_stand_0 (by decide) ?_
  refine lv_istore (lv' := [(4, .int (nI 0)), (0, .ref a), (1, .int (nI c)), (2, .int d), (3, .int o)]) hx hb dX9_stand_1 hl (by decide) rfl (fun ls hl => ?_)
  have lp3 : ∀ f_ : Nat, ∀ (i : Nat) (fp2 : Nat → Int32), (n - i) < f_ → (i ≤ n) → (∀ j, j < 8 → fp2 j = outN t c i (29 + j)) → ∀ (H : Heap) (locs : List Loc), va_P D vwCl ([(a, .inr (8, [.ref (b 0), .ref (b 1), .ref (b 2), .ref (b 3), .int (t 1), .int (t 2), .int (t 3), .int (t 0)])), ((b 0), wRef (cy 2) 8 S), ((b 1), wInt (cy 0) 8 (fun j => t (13 + j))), ((b 2), wInt (cy 0) 8 (fun j => t (21 + j))), ((b 3), wInt (cy 0) 8 fp2)]) H → va_D A_ ([(a, .inr (8, [.ref (b 0), .ref (b 1), .ref (b 2), .ref (b 3), .int (t 1), .int (t 2), .int (t 3), .int (t 0)])), ((b 0), wRef (cy 2) 8 S), ((b 1), wInt (cy 0) 8 (fun j => t (13 + j))), ((b 2), wInt (cy 0) 8 (fun j => t (21 + j))), ((b 3), wInt (cy 0) 8 fp2)]) → va_S A_ s_.heap H locs → ∀ ls : Array Slot, lv_has ls 6 [(0, .ref a), (1, .int (nI c)), (2, .int d), (3, .int o), (4, .int (nI i))] → W p_ l e_ (rmD 1) s_ m_ args_ below_ meth_ c_ H locs 0 0 Q_ (F0 m_ 3 ls []) := by
    intro f_
    induction f_ with
    | zero => intro i fp2 hm_; exact absurd hm_ (by omega)
    | succ f_ ih3 =>
      intro i fp2 hm_ hi hf H locs hP hD hS ls hl
      refine lv_iload hx hb dX9_stand_3 (lv_at hl 4 rfl) ?_
      refine lv_aload_n hx hb dX9_stand_5 rfl (lv_at hl 0 rfl) ?_
      refine va_get (ci := 8) (v := .int (t 3)) (C := RX9) (T := TX9) (N := 8) hx hb hts hinX9 hown hK hP 0 rfl rfl 6 (by decide) hf34 (fun _ h9 => h9) rfl dX9_stand_6 ?_
      refine top_i h3 ?_
      refine geN (tgt := 61) hx hb (by omega) (by omega) dX9_stand_9 (by decide) (fun c9 => ?_) (fun c9 => ?_)
      · refine lv_aload_n hx hb dX9_stand_61 rfl (lv_at hl 0 rfl) ?_
        refine va_get (ci := 8) (v := .ref (b 2)) (C := RX9) (T := TX9) (N := 8) hx hb hts hinX9 hown hK hP 0 rfl rfl 2 (by decide) hf21 (fun _ h9 => h9) rfl dX9_stand_62 ?_
        refine lv_iload_n hx hb dX9_stand_65 rfl (lv_at hl 1 rfl) ?_
        refine lv_iconst (v := (-1)) hx hb dX9_stand_66 (by decide) ?_
        refine stN (f := fun j => t (21 + j)) (ws' := [(a, .inr (8, [.ref (b 0), .ref (b 1), .ref (b 2), .ref (b 3), .int (t 1), .int (t 2), .int (t 3), .int (t 0)])), ((b 0), wRef (cy 2) 8 S), ((b 1), wInt (cy 0) 8 (fun j => t (13 + j))), ((b 2), wInt (cy 0) 8 (upd (fun j => t (21 + j)) c (-1))), ((b 3), wInt (cy 0) 8 fp2)]) hx hb hK hP hD hS 3 rfl (j := c) (by omega) (by decide) dX9_stand_67 rfl (fun H locs hP hD hS => ?_)
        obtain ⟨t1, et1⟩ : ∃ z, z = outS t n c := ⟨_, rfl⟩
        have hin : i = n := (by omega)
        have hP := (sWc (t := t1) hP (by rw [et1, outS_lo _ _ _ (by omega)]) (by rw [et1, outS_lo _ _ _ (by omega)]) (by rw [et1, outS_lo _ _ _ (by omega)]) (by rw [et1, outS_lo _ _ _ (by omega)]) (fun j hj => (by rw [et1, outS_lo _ _ _ (by omega)])) (fun j hj => by rw [et1]; exact outI t (by omega) j hj) (fun j hj => by rw [et1]; exact outQ (by omega) (hin ▸ hf) j hj))
        have hD := (sWd (t := t1) hD (by rw [et1, outS_lo _ _ _ (by omega)]) (by rw [et1, outS_lo _ _ _ (by omega)]) (by rw [et1, outS_lo _ _ _ (by omega)]) (by rw [et1, outS_lo _ _ _ (by omega)]))
        have hP : va_P D vwCl ([(a, .inr (8, [.ref (b 0), .ref (b 1), .ref (b 2), .ref (b 3), .int (t1 1), .int (t1 2), .int (t1 3), .int (t1 0)])), ((b 0), wRef (cy 2) 8 S), ((b 1), wInt (cy 0) 8 (fun j => t1 (13 + j))), ((b 2), wInt (cy 0) 8 (fun j => t1 (21 + j))), ((b 3), wInt (cy 0) 8 (fun j => t1 (29 + j)))]) H := hP
        have hD : va_D A_ ([(a, .inr (8, [.ref (b 0), .ref (b 1), .ref (b 2), .ref (b 3), .int (t1 1), .int (t1 2), .int (t1 3), .int (t1 0)])), ((b 0), wRef (cy 2) 8 S), ((b 1), wInt (cy 0) 8 (fun j => t1 (13 + j))), ((b 2), wInt (cy 0) 8 (fun j => t1 (21 + j))), ((b 3), wInt (cy 0) 8 (fun j => t1 (29 + j)))]) := hD
        have h31 : t1 3 = nI n := (by rw [et1, outS_lo _ _ _ (by omega)]; exact h3)
        refine lv_aload_n hx hb dX9_stand_68 rfl (lv_at hl 0 rfl) ?_
        refine lv_iload_n hx hb dX9_stand_69 rfl (lv_at hl 3 rfl) ?_
        refine call_i (wr := []) (ws' := (fun _ : Unit => [(a, .inr (8, [.ref (b 0), .ref (b 1), .ref (b 2), .ref (b 3), .int (t1 1), .int (t1 2), .int (t1 3), .int (t1 0)])), ((b 0), wRef (cy 2) 8 S), ((b 1), wInt (cy 0) 8 (fun j => t1 (13 + j))), ((b 2), wInt (cy 0) 8 (fun j => t1 (21 + j))), ((b 3), wInt (cy 0) 8 (fun j => t1 (29 + j)))])) (va_runV (As := [.int o]) (rest := []) CF (k_X9_hasCard l D cy _ a b S t1 o n h31) (cwV 1 hts gX9_stand_X9_hasCard rfl rfl rfl (by decide +kernel) ⟨Nat.le_of_ble_eq_true rfl, Nat.le_of_ble_eq_true rfl⟩) (pre_V hKN hP hD [0, 1, 2, 3, 4] rfl (by decide) 0 8 rfl rfl) rfl rfl hl.1 rfl (lv_room (Nat.le_of_ble_eq_true rfl)) dX9_stand_70 ⟨Nat.le_of_ble_eq_true rfl, Nat.le_of_ble_eq_true rfl⟩) hS hA hP hD [0, 1, 2, 3, 4] [] [0, 1, 2, 3, 4] rfl rfl (by decide) (by decide) (fun _ => rfl) (by decide) (fun r2 u1 H locs hw3 hP hD hS => ?_)
        replace hw3 := hw3.symm; subst hw3
        refine ifeqB (tgt := 87) hx hb dX9_stand_73 (by decide) (fun c73 => ?_) (fun c73 => ?_)
        · replace c73 : ¬ (isC n o) := c73
          refine lv_aload_n hx hb dX9_stand_87 rfl (lv_at hl 0 rfl) ?_
          refine lv_iload_n hx hb dX9_stand_88 rfl (lv_at hl 2 rfl) ?_
          refine call_i (wr := []) (ws' := (fun _ : Unit => [(a, .inr (8, [.ref (b 0), .ref (b 1), .ref (b 2), .ref (b 3), .int (t1 1), .int (t1 2), .int (t1 3), .int (t1 0)])), ((b 0), wRef (cy 2) 8 S), ((b 1), wInt (cy 0) 8 (fun j => t1 (13 + j))), ((b 2), wInt (cy 0) 8 (fun j => t1 (21 + j))), ((b 3), wInt (cy 0) 8 (fun j => t1 (29 + j)))])) (va_runV (As := [.int d]) (rest := []) CF (k_X9_fill l D cy _ a b S t1 d n (by first | assumption | omega | decide) h31) (cwV 1 hts gX9_stand_X9_fill rfl rfl rfl (by decide +kernel) ⟨Nat.le_of_ble_eq_true rfl, Nat.le_of_ble_eq_true rfl⟩) (pre_V hKN hP hD [0, 1, 2, 3, 4] rfl (by decide) 0 8 rfl rfl) rfl rfl hl.1 rfl (lv_room (Nat.le_of_ble_eq_true rfl)) dX9_stand_89 ⟨Nat.le_of_ble_eq_true rfl, Nat.le_of_ble_eq_true rfl⟩) hS hA hP hD [0, 1, 2, 3, 4] [] [0, 1, 2, 3, 4] rfl rfl (by decide) (by decide) (fun _ => rfl) (by decide) (fun r5 u4 H locs hw6 hP hD hS => ?_)
          replace hw6 := hw6.symm; subst hw6
          refine lv_istore (lv' := [(4, .int (fillN t1 d n)), (0, .ref a), (1, .int (nI c)), (2, .int d), (3, .int o)]) hx hb dX9_stand_92 hl (by decide) rfl (fun ls hl => ?_)
          obtain ⟨pl, epl⟩ : ∃ z, z = fillN t1 d n := ⟨_, rfl⟩
          rw [← epl] at hl
          refine lv_iconst (v := nI 0) hx hb dX9_stand_94 (by decide) ?_
          refine lv_istore (lv' := [(5, .int (nI 0)), (4, .int pl), (0, .ref a), (1, .int (nI c)), (2, .int d), (3, .int o)]) hx hb dX9_stand_95 hl (by decide) rfl (fun ls hl => ?_)
          have lp97 : ∀ f_ : Nat, ∀ (i2 : Nat) (fp3 : Nat → Int32), (n - i2) < f_ → (i2 ≤ n) → (∀ j, j < 8 → fp3 j = inN t1 d pl i2 (29 + j)) → ∀ (H : Heap) (locs : List Loc), va_P D vwCl ([(a, .inr (8, [.ref (b 0), .ref (b 1), .ref (b 2), .ref (b 3), .int (t1 1), .int (t1 2), .int (t1 3), .int (t1 0)])), ((b 0), wRef (cy 2) 8 S), ((b 1), wInt (cy 0) 8 (fun j => t1 (13 + j))), ((b 2), wInt (cy 0) 8 (fun j => t1 (21 + j))), ((b 3), wInt (cy 0) 8 fp3)]) H → va_D A_ ([(a, .inr (8, [.ref (b 0), .ref (b 1), .ref (b 2), .ref (b 3), .int (t1 1), .int (t1 2), .int (t1 3), .int (t1 0)])), ((b 0), wRef (cy 2) 8 S), ((b 1), wInt (cy 0) 8 (fun j => t1 (13 + j))), ((b 2), wInt (cy 0) 8 (fun j => t1 (21 + j))), ((b 3), wInt (cy 0) 8 fp3)]) → va_S A_ s_.heap H locs → ∀ ls : Array Slot, lv_has ls 6 [(0, .ref a), (1, .int (nI c)), (2, .int d), (4, .int pl), (5, .int (nI i2))] → W p_ l e_ (rmD 1) s_ m_ args_ below_ meth_ c_ H locs 0 0 Q_ (F0 m_ 97 ls []) := by
            intro f_
            induction f_ with
            | zero => intro i2 fp3 hm_; exact absurd hm_ (by omega)
            | succ f_ ih97 =>
              intro i2 fp3 hm_ hi2 hf2 H locs hP hD hS ls hl
              refine lv_iload hx hb dX9_stand_97 (lv_at hl 4 rfl) ?_
              refine lv_aload_n hx hb dX9_stand_99 rfl (lv_at hl 0 rfl) ?_
              refine va_get (ci := 8) (v := .int (t1 3)) (C := RX9) (T := TX9) (N := 8) hx hb hts hinX9 hown hK hP 0 rfl rfl 6 (by decide) hf34 (fun _ h9 => h9) rfl dX9_stand_100 ?_
              refine top_i h31 ?_
              refine geN (tgt := 146) hx hb (by omega) (by omega) dX9_stand_103 (by decide) (fun c103 => ?_) (fun c103 => ?_)
              · refine lv_aload_n hx hb dX9_stand_146 rfl (lv_at hl 0 rfl) ?_
                refine va_get (ci := 8) (v := .ref (b 2)) (C := RX9) (T := TX9) (N := 8) hx hb hts hinX9 hown hK hP 0 rfl rfl 2 (by decide) hf21 (fun _ h9 => h9) rfl dX9_stand_147 ?_
                refine lv_iload_n hx hb dX9_stand_150 rfl (lv_at hl 1 rfl) ?_
                refine lv_iload_n hx hb dX9_stand_151 rfl (lv_at hl 2 rfl) ?_
                refine stN (f := fun j => t1 (21 + j)) (ws' := [(a, .inr (8, [.ref (b 0), .ref (b 1), .ref (b 2), .ref (b 3), .int (t1 1), .int (t1 2), .int (t1 3), .int (t1 0)])), ((b 0), wRef (cy 2) 8 S), ((b 1), wInt (cy 0) 8 (fun j => t1 (13 + j))), ((b 2), wInt (cy 0) 8 (upd (fun j => t1 (21 + j)) c d)), ((b 3), wInt (cy 0) 8 fp3)]) hx hb hK hP hD hS 3 rfl (j := c) (by omega) (by decide) dX9_stand_152 rfl (fun H locs hP hD hS => ?_)
                refine lv_aload_n hx hb dX9_stand_153 rfl (lv_at hl 0 rfl) ?_
                refine va_get (ci := 8) (v := .ref (b 3)) (C := RX9) (T := TX9) (N := 8) hx hb hts hinX9 hown hK hP 0 rfl rfl 3 (by decide) hf24 (fun _ h9 => h9) rfl dX9_stand_154 ?_
                refine lv_iload_n hx hb dX9_stand_157 rfl (lv_at hl 1 rfl) ?_
                refine lv_iload hx hb dX9_stand_158 (lv_at hl 3 rfl) ?_
                refine stN (f := fp3) (ws' := [(a, .inr (8, [.ref (b 0), .ref (b 1), .ref (b 2), .ref (b 3), .int (t1 1), .int (t1 2), .int (t1 3), .int (t1 0)])), ((b 0), wRef (cy 2) 8 S), ((b 1), wInt (cy 0) 8 (fun j => t1 (13 + j))), ((b 2), wInt (cy 0) 8 (upd (fun j => t1 (21 + j)) c d)), ((b 3), wInt (cy 0) 8 (upd fp3 c pl))]) hx hb hK hP hD hS 4 rfl (j := c) (by omega) (by decide) dX9_stand_160 rfl (fun H locs hP hD hS => ?_)
                exact ret (inS t1 n c d pl) _ _ _ _ dX9_stand_161 (by rw [stS, ← et1, epl, if_neg c73]) (sWc (t := inS t1 n c d pl) hP (by rw [inS_lo _ _ _ _ _ (by omega)]) (by rw [inS_lo _ _ _ _ _ (by omega)]) (by rw [inS_lo _ _ _ _ _ (by omega)]) (by rw [inS_lo _ _ _ _ _ (by omega)]) (fun j hj => (by rw [inS_lo _ _ _ _ _ (by omega)])) (inI t1 (by omega)) (inQ (by omega) ((show i2 = n by omega) ▸ hf2))) (sWd (t := inS t1 n c d pl) hD (by rw [inS_lo _ _ _ _ _ (by omega)]) (by rw [inS_lo _ _ _ _ _ (by omega)]) (by rw [inS_lo _ _ _ _ _ (by omega)]) (by rw [inS_lo _ _ _ _ _ (by omega)])) hS
              · refine lv_aload_n hx hb dX9_stand_106 rfl (lv_at hl 0 rfl) ?_
                refine va_get (ci := 8) (v := .ref (b 2)) (C := RX9) (T := TX9) (N := 8) hx hb hts hinX9 hown hK hP 0 rfl rfl 2 (by decide) hf21 (fun _ h9 => h9) rfl dX9_stand_107 ?_
                refine lv_iload hx hb dX9_stand_110 (lv_at hl 4 rfl) ?_
                refine ldN (f := fun j => t1 (21 + j)) hx hb hK hP 3 rfl (j := i2) (by omega) (by decide) dX9_stand_112 ?_
                refine top_i (y := (t1 (21 + i2))) rfl ?_
                refine lv_iload_n hx hb dX9_stand_113 rfl (lv_at hl 2 rfl) ?_
                refine lv_icmp_ne (tgt := 140) hx hb dX9_stand_114 (by decide) (fun c114 => ?_) (fun c114 => ?_)
                · refine lv_iinc (v := nI (i2 + 1)) (lv' := [(5, .int (nI (i2 + 1))), (0, .ref a), (1, .int (nI c)), (2, .int d), (4, .int pl)]) hx hb dX9_stand_140 hl (k := 4) rfl (nI_1 _) (by decide) rfl (fun ls hl => ?_)
                  refine lv_goto (tgt := 97) hx hb dX9_stand_143 (by decide) ?_
                  exact ih97 (i2 + 1) fp3 (by omega) (by omega) (in_n (by omega) hf2 (fun z => by first | exact c114 z.1 | exact z.2 c126)) _ _ hP hD hS ls (lv_sub hl [1, 2, 3, 4, 0] rfl)
                · refine lv_aload_n hx hb dX9_stand_117 rfl (lv_at hl 0 rfl) ?_
                  refine va_get (ci := 8) (v := .ref (b 3)) (C := RX9) (T := TX9) (N := 8) hx hb hts hinX9 hown hK hP 0 rfl rfl 3 (by decide) hf24 (fun _ h9 => h9) rfl dX9_stand_118 ?_
                  refine lv_iload hx hb dX9_stand_121 (lv_at hl 4 rfl) ?_
                  refine ldN (f := fp3) hx hb hK hP 4 rfl (j := i2) (by omega) (by decide) dX9_stand_123 ?_
                  refine lv_iload hx hb dX9_stand_124 (lv_at hl 3 rfl) ?_
                  refine lv_icmp_lt (tgt := 140) hx hb dX9_stand_126 (by decide) (fun c126 => ?_) (fun c126 => ?_)
                  · refine lv_iinc (v := nI (i2 + 1)) (lv' := [(5, .int (nI (i2 + 1))), (0, .ref a), (1, .int (nI c)), (2, .int d), (4, .int pl)]) hx hb dX9_stand_140 hl (k := 4) rfl (nI_1 _) (by decide) rfl (fun ls hl => ?_)
                    refine lv_goto (tgt := 97) hx hb dX9_stand_143 (by decide) ?_
                    exact ih97 (i2 + 1) fp3 (by omega) (by omega) (in_n (by omega) hf2 (fun z => by first | exact c114 z.1 | exact z.2 c126)) _ _ hP hD hS ls (lv_sub hl [1, 2, 3, 4, 0] rfl)
                  · refine lv_aload_n hx hb dX9_stand_129 rfl (lv_at hl 0 rfl) ?_
                    refine va_get (ci := 8) (v := .ref (b 3)) (C := RX9) (T := TX9) (N := 8) hx hb hts hinX9 hown hK hP 0 rfl rfl 3 (by decide) hf24 (fun _ h9 => h9) rfl dX9_stand_130 ?_
                    refine lv_iload hx hb dX9_stand_133 (lv_at hl 4 rfl) ?_
                    refine lv_dup2_11 hx hb dX9_stand_135 rfl rfl ?_
                    refine ldN (f := fp3) hx hb hK hP 4 rfl (j := i2) (by omega) (by decide) dX9_stand_136 ?_
                    refine lv_iconst (v := nI 1) hx hb dX9_stand_137 (by decide) ?_
                    refine lv_iadd hx hb dX9_stand_138 ?_
                    refine stN (f := fp3) (ws' := [(a, .inr (8, [.ref (b 0), .ref (b 1), .ref (b 2), .ref (b 3), .int (t1 1), .int (t1 2), .int (t1 3), .int (t1 0)])), ((b 0), wRef (cy 2) 8 S), ((b 1), wInt (cy 0) 8 (fun j => t1 (13 + j))), ((b 2), wInt (cy 0) 8 (fun j => t1 (21 + j))), ((b 3), wInt (cy 0) 8 (upd fp3 i2 (fp3 i2 + nI 1)))]) hx hb hK hP hD hS 4 rfl (j := i2) (by omega) (by decide) dX9_stand_139 rfl (fun H locs hP hD hS => ?_)
                    refine lv_iinc (v := nI (i2 + 1)) (lv' := [(5, .int (nI (i2 + 1))), (0, .ref a), (1, .int (nI c)), (2, .int d), (4, .int pl)]) hx hb dX9_stand_140 hl (k := 4) rfl (nI_1 _) (by decide) rfl (fun ls hl => ?_)
                    refine lv_goto (tgt := 97) hx hb dX9_stand_143 (by decide) ?_
                    exact ih97 (i2 + 1) (upd fp3 i2 (fp3 i2 + nI 1)) (by omega) (by omega) (in_y (by omega) hf2 c114 c126) _ _ hP hD hS ls (lv_sub hl [1, 2, 3, 4, 0] rfl)
          exact lp97 (n - 0 + 1) 0 (fun j => t1 (29 + j)) (by omega) (by omega) (fun j hj => rfl) _ _ hP hD hS ls (lv_sub hl [2, 3, 4, 1, 0] rfl)
        · replace c73 : (isC n o) := c73
          obtain ⟨k, h_k, rfl⟩ := isC_nat (by omega) c73
          have e_k : (nI k).toNatClampNeg = k := nI_clamp (by omega)
          refine lv_aload_n hx hb dX9_stand_76 rfl (lv_at hl 0 rfl) ?_
          refine va_get (ci := 8) (v := .ref (b 3)) (C := RX9) (T := TX9) (N := 8) hx hb hts hinX9 hown hK hP 0 rfl rfl 3 (by decide) hf24 (fun _ h9 => h9) rfl dX9_stand_77 ?_
          refine lv_iload_n hx hb dX9_stand_80 rfl (lv_at hl 3 rfl) ?_
          refine ldN (f := fun j => t1 (29 + j)) hx hb hK hP 4 rfl (j := k) (by omega) (by decide) dX9_stand_81 ?_
          refine top_i (y := (t1 (29 + k))) rfl ?_
          refine lv_iconst (v := nI 1) hx hb dX9_stand_82 (by decide) ?_
          refine lv_iadd hx hb dX9_stand_83 ?_
          refine lv_goto (tgt := 92) hx hb dX9_stand_84 (by decide) ?_
          refine lv_istore (lv' := [(4, .int (t1 (29 + k) + nI 1)), (0, .ref a), (1, .int (nI c)), (2, .int d), (3, .int (nI k))]) hx hb dX9_stand_92 hl (by decide) rfl (fun ls hl => ?_)
          obtain ⟨pl, epl⟩ : ∃ z, z = (t1 (29 + k) + nI 1) := ⟨_, rfl⟩
          rw [← epl] at hl
          refine lv_iconst (v := nI 0) hx hb dX9_stand_94 (by decide) ?_
          refine lv_istore (lv' := [(5, .int (nI 0)), (4, .int pl), (0, .ref a), (1, .int (nI c)), (2, .int d), (3, .int (nI k))]) hx hb dX9_stand_95 hl (by decide) rfl (fun ls hl => ?_)
          have lp97 : ∀ f_ : Nat, ∀ (i2 : Nat) (fp3 : Nat → Int32), (n - i2) < f_ → (i2 ≤ n) → (∀ j, j < 8 → fp3 j = inN t1 d pl i2 (29 + j)) → ∀ (H : Heap) (locs : List Loc), va_P D vwCl ([(a, .inr (8, [.ref (b 0), .ref (b 1), .ref (b 2), .ref (b 3), .int (t1 1), .int (t1 2), .int (t1 3), .int (t1 0)])), ((b 0), wRef (cy 2) 8 S), ((b 1), wInt (cy 0) 8 (fun j => t1 (13 + j))), ((b 2), wInt (cy 0) 8 (fun j => t1 (21 + j))), ((b 3), wInt (cy 0) 8 fp3)]) H → va_D A_ ([(a, .inr (8, [.ref (b 0), .ref (b 1), .ref (b 2), .ref (b 3), .int (t1 1), .int (t1 2), .int (t1 3), .int (t1 0)])), ((b 0), wRef (cy 2) 8 S), ((b 1), wInt (cy 0) 8 (fun j => t1 (13 + j))), ((b 2), wInt (cy 0) 8 (fun j => t1 (21 + j))), ((b 3), wInt (cy 0) 8 fp3)]) → va_S A_ s_.heap H locs → ∀ ls : Array Slot, lv_has ls 6 [(0, .ref a), (1, .int (nI c)), (2, .int d), (4, .int pl), (5, .int (nI i2))] → W p_ l e_ (rmD 1) s_ m_ args_ below_ meth_ c_ H locs 0 0 Q_ (F0 m_ 97 ls []) := by
            intro f_
            induction f_ with
            | zero => intro i2 fp3 hm_; exact absurd hm_ (by omega)
            | succ f_ ih97 =>
              intro i2 fp3 hm_ hi2 hf2 H locs hP hD hS ls hl
              refine lv_iload hx hb dX9_stand_97 (lv_at hl 4 rfl) ?_
              refine lv_aload_n hx hb dX9_stand_99 rfl (lv_at hl 0 rfl) ?_
              refine va_get (ci := 8) (v := .int (t1 3)) (C := RX9) (T := TX9) (N := 8) hx hb hts hinX9 hown hK hP 0 rfl rfl 6 (by decide) hf34 (fun _ h9 => h9) rfl dX9_stand_100 ?_
              refine top_i h31 ?_
              refine geN (tgt := 146) hx hb (by omega) (by omega) dX9_stand_103 (by decide) (fun c103 => ?_) (fun c103 => ?_)
              · refine lv_aload_n hx hb dX9_stand_146 rfl (lv_at hl 0 rfl) ?_
                refine va_get (ci := 8) (v := .ref (b 2)) (C := RX9) (T := TX9) (N := 8) hx hb hts hinX9 hown hK hP 0 rfl rfl 2 (by decide) hf21 (fun _ h9 => h9) rfl dX9_stand_147 ?_
                refine lv_iload_n hx hb dX9_stand_150 rfl (lv_at hl 1 rfl) ?_
                refine lv_iload_n hx hb dX9_stand_151 rfl (lv_at hl 2 rfl) ?_
                refine stN (f := fun j => t1 (21 + j)) (ws' := [(a, .inr (8, [.ref (b 0), .ref (b 1), .ref (b 2), .ref (b 3), .int (t1 1), .int (t1 2), .int (t1 3), .int (t1 0)])), ((b 0), wRef (cy 2) 8 S), ((b 1), wInt (cy 0) 8 (fun j => t1 (13 + j))), ((b 2), wInt (cy 0) 8 (upd (fun j => t1 (21 + j)) c d)), ((b 3), wInt (cy 0) 8 fp3)]) hx hb hK hP hD hS 3 rfl (j := c) (by omega) (by decide) dX9_stand_152 rfl (fun H locs hP hD hS => ?_)
                refine lv_aload_n hx hb dX9_stand_153 rfl (lv_at hl 0 rfl) ?_
                refine va_get (ci := 8) (v := .ref (b 3)) (C := RX9) (T := TX9) (N := 8) hx hb hts hinX9 hown hK hP 0 rfl rfl 3 (by decide) hf24 (fun _ h9 => h9) rfl dX9_stand_154 ?_
                refine lv_iload_n hx hb dX9_stand_157 rfl (lv_at hl 1 rfl) ?_
                refine lv_iload hx hb dX9_stand_158 (lv_at hl 3 rfl) ?_
                refine stN (f := fp3) (ws' := [(a, .inr (8, [.ref (b 0), .ref (b 1), .ref (b 2), .ref (b 3), .int (t1 1), .int (t1 2), .int (t1 3), .int (t1 0)])), ((b 0), wRef (cy 2) 8 S), ((b 1), wInt (cy 0) 8 (fun j => t1 (13 + j))), ((b 2), wInt (cy 0) 8 (upd (fun j => t1 (21 + j)) c d)), ((b 3), wInt (cy 0) 8 (upd fp3 c pl))]) hx hb hK hP hD hS 4 rfl (j := c) (by omega) (by decide) dX9_stand_160 rfl (fun H locs hP hD hS => ?_)
                exact ret (inS t1 n c d pl) _ _ _ _ dX9_stand_161 (by rw [stS, ← et1, epl, if_pos c73, show cl (nI k) = k from e_k]) (sWc (t := inS t1 n c d pl) hP (by rw [inS_lo _ _ _ _ _ (by omega)]) (by rw [inS_lo _ _ _ _ _ (by omega)]) (by rw [inS_lo _ _ _ _ _ (by omega)]) (by rw [inS_lo _ _ _ _ _ (by omega)]) (fun j hj => (by rw [inS_lo _ _ _ _ _ (by omega)])) (inI t1 (by omega)) (inQ (by omega) ((show i2 = n by omega) ▸ hf2))) (sWd (t := inS t1 n c d pl) hD (by rw [inS_lo _ _ _ _ _ (by omega)]) (by rw [inS_lo _ _ _ _ _ (by omega)]) (by rw [inS_lo _ _ _ _ _ (by omega)]) (by rw [inS_lo _ _ _ _ _ (by omega)])) hS
              · refine lv_aload_n hx hb dX9_stand_106 rfl (lv_at hl 0 rfl) ?_
                refine va_get (ci := 8) (v := .ref (b 2)) (C := RX9) (T := TX9) (N := 8) hx hb hts hinX9 hown hK hP 0 rfl rfl 2 (by decide) hf21 (fun _ h9 => h9) rfl dX9_stand_107 ?_
                refine lv_iload hx hb dX9_stand_110 (lv_at hl 4 rfl) ?_
                refine ldN (f := fun j => t1 (21 + j)) hx hb hK hP 3 rfl (j := i2) (by omega) (by decide) dX9_stand_112 ?_
                refine top_i (y := (t1 (21 + i2))) rfl ?_
                refine lv_iload_n hx hb dX9_stand_113 rfl (lv_at hl 2 rfl) ?_
                refine lv_icmp_ne (tgt := 140) hx hb dX9_stand_114 (by decide) (fun c114 => ?_) (fun c114 => ?_)
                · refine lv_iinc (v := nI (i2 + 1)) (lv' := [(5, .int (nI (i2 + 1))), (0, .ref a), (1, .int (nI c)), (2, .int d), (4, .int pl)]) hx hb dX9_stand_140 hl (k := 4) rfl (nI_1 _) (by decide) rfl (fun ls hl => ?_)
                  refine lv_goto (tgt := 97) hx hb dX9_stand_143 (by decide) ?_
                  exact ih97 (i2 + 1) fp3 (by omega) (by omega) (in_n (by omega) hf2 (fun z => by first | exact c114 z.1 | exact z.2 c126)) _ _ hP hD hS ls (lv_sub hl [1, 2, 3, 4, 0] rfl)
                · refine lv_aload_n hx hb dX9_stand_117 rfl (lv_at hl 0 rfl) ?_
                  refine va_get (ci := 8) (v := .ref (b 3)) (C := RX9) (T := TX9) (N := 8) hx hb hts hinX9 hown hK hP 0 rfl rfl 3 (by decide) hf24 (fun _ h9 => h9) rfl dX9_stand_118 ?_
                  refine lv_iload hx hb dX9_stand_121 (lv_at hl 4 rfl) ?_
                  refine ldN (f := fp3) hx hb hK hP 4 rfl (j := i2) (by omega) (by decide) dX9_stand_123 ?_
                  refine lv_iload hx hb dX9_stand_124 (lv_at hl 3 rfl) ?_
                  refine lv_icmp_lt (tgt := 140) hx hb dX9_stand_126 (by decide) (fun c126 => ?_) (fun c126 => ?_)
                  · refine lv_iinc (v := nI (i2 + 1)) (lv' := [(5, .int (nI (i2 + 1))), (0, .ref a), (1, .int (nI c)), (2, .int d), (4, .int pl)]) hx hb dX9_stand_140 hl (k := 4) rfl (nI_1 _) (by decide) rfl (fun ls hl => ?_)
                    refine lv_goto (tgt := 97) hx hb dX9_stand_143 (by decide) ?_
                    exact ih97 (i2 + 1) fp3 (by omega) (by omega) (in_n (by omega) hf2 (fun z => by first | exact c114 z.1 | exact z.2 c126)) _ _ hP hD hS ls (lv_sub hl [1, 2, 3, 4, 0] rfl)
                  · refine lv_aload_n hx hb dX9_stand_129 rfl (lv_at hl 0 rfl) ?_
                    refine va_get (ci := 8) (v := .ref (b 3)) (C := RX9) (T := TX9) (N := 8) hx hb hts hinX9 hown hK hP 0 rfl rfl 3 (by decide) hf24 (fun _ h9 => h9) rfl dX9_stand_130 ?_
                    refine lv_iload hx hb dX9_stand_133 (lv_at hl 4 rfl) ?_
                    refine lv_dup2_11 hx hb dX9_stand_135 rfl rfl ?_
                    refine ldN (f := fp3) hx hb hK hP 4 rfl (j := i2) (by omega) (by decide) dX9_stand_136 ?_
                    refine lv_iconst (v := nI 1) hx hb dX9_stand_137 (by decide) ?_
                    refine lv_iadd hx hb dX9_stand_138 ?_
                    refine stN (f := fp3) (ws' := [(a, .inr (8, [.ref (b 0), .ref (b 1), .ref (b 2), .ref (b 3), .int (t1 1), .int (t1 2), .int (t1 3), .int (t1 0)])), ((b 0), wRef (cy 2) 8 S), ((b 1), wInt (cy 0) 8 (fun j => t1 (13 + j))), ((b 2), wInt (cy 0) 8 (fun j => t1 (21 + j))), ((b 3), wInt (cy 0) 8 (upd fp3 i2 (fp3 i2 + nI 1)))]) hx hb hK hP hD hS 4 rfl (j := i2) (by omega) (by decide) dX9_stand_139 rfl (fun H locs hP hD hS => ?_)
                    refine lv_iinc (v := nI (i2 + 1)) (lv' := [(5, .int (nI (i2 + 1))), (0, .ref a), (1, .int (nI c)), (2, .int d), (4, .int pl)]) hx hb dX9_stand_140 hl (k := 4) rfl (nI_1 _) (by decide) rfl (fun ls hl => ?_)
                    refine lv_goto (tgt := 97) hx hb dX9_stand_143 (by decide) ?_
                    exact ih97 (i2 + 1) (upd fp3 i2 (fp3 i2 + nI 1)) (by omega) (by omega) (in_y (by omega) hf2 c114 c126) _ _ hP hD hS ls (lv_sub hl [1, 2, 3, 4, 0] rfl)
          exact lp97 (n - 0 + 1) 0 (fun j => t1 (29 + j)) (by omega) (by omega) (fun j hj => rfl) _ _ hP hD hS ls (lv_sub hl [2, 3, 4, 1, 0] rfl)
      · refine lv_aload_n hx hb dX9_stand_12 rfl (lv_at hl 0 rfl) ?_
        refine va_get (ci := 8) (v := .ref (b 2)) (C := RX9) (T := TX9) (N := 8) hx hb hts hinX9 hown hK hP 0 rfl rfl 2 (by decide) hf21 (fun _ h9 => h9) rfl dX9_stand_13 ?_
        refine lv_iload hx hb dX9_stand_16 (lv_at hl 4 rfl) ?_
        refine ldN (f := fun j => t (21 + j)) hx hb hK hP 3 rfl (j := i) (by omega) (by decide) dX9_stand_18 ?_
        refine top_i (y := (t (21 + i))) rfl ?_
        refine lv_aload_n hx hb dX9_stand_19 rfl (lv_at hl 0 rfl) ?_
        refine va_get (ci := 8) (v := .ref (b 2)) (C := RX9) (T := TX9) (N := 8) hx hb hts hinX9 hown hK hP 0 rfl rfl 2 (by decide) hf21 (fun _ h9 => h9) rfl dX9_stand_20 ?_
        refine lv_iload_n hx hb dX9_stand_23 rfl (lv_at hl 1 rfl) ?_
        refine ldN (f := fun j => t (21 + j)) hx hb hK hP 3 rfl (j := c) (by omega) (by decide) dX9_stand_24 ?_
        refine top_i (y := (t (21 + c))) rfl ?_
        refine lv_icmp_ne (tgt := 55) hx hb dX9_stand_25 (by decide) (fun c25 => ?_) (fun c25 => ?_)
        · refine lv_iinc (v := nI (i + 1)) (lv' := [(4, .int (nI (i + 1))), (0, .ref a), (1, .int (nI c)), (2, .int d), (3, .int o)]) hx hb dX9_stand_55 hl (k := 4) rfl (nI_1 _) (by decide) rfl (fun ls hl => ?_)
          refine lv_goto (tgt := 3) hx hb dX9_stand_58 (by decide) ?_
          exact ih3 (i + 1) fp2 (by omega) (by omega) (out_n (by omega) (by omega) hf (fun z => by first | exact c25 z.1 | exact z.2 c41)) _ _ hP hD hS ls (lv_sub hl [1, 2, 3, 4, 0] rfl)
        · refine lv_aload_n hx hb dX9_stand_28 rfl (lv_at hl 0 rfl) ?_
          refine va_get (ci := 8) (v := .ref (b 3)) (C := RX9) (T := TX9) (N := 8) hx hb hts hinX9 hown hK hP 0 rfl rfl 3 (by decide) hf24 (fun _ h9 => h9) rfl dX9_stand_29 ?_
          refine lv_iload hx hb dX9_stand_32 (lv_at hl 4 rfl) ?_
          refine ldN (f := fp2) hx hb hK hP 4 rfl (j := i) (by omega) (by decide) dX9_stand_34 ?_
          refine lv_aload_n hx hb dX9_stand_35 rfl (lv_at hl 0 rfl) ?_
          refine va_get (ci := 8) (v := .ref (b 3)) (C := RX9) (T := TX9) (N := 8) hx hb hts hinX9 hown hK hP 0 rfl rfl 3 (by decide) hf24 (fun _ h9 => h9) rfl dX9_stand_36 ?_
          refine lv_iload_n hx hb dX9_stand_39 rfl (lv_at hl 1 rfl) ?_
          refine ldN (f := fp2) hx hb hK hP 4 rfl (j := c) (by omega) (by decide) dX9_stand_40 ?_
          refine lv_icmp_le (tgt := 55) hx hb dX9_stand_41 (by decide) (fun c41 => ?_) (fun c41 => ?_)
          · refine lv_iinc (v := nI (i + 1)) (lv' := [(4, .int (nI (i + 1))), (0, .ref a), (1, .int (nI c)), (2, .int d), (3, .int o)]) hx hb dX9_stand_55 hl (k := 4) rfl (nI_1 _) (by decide) rfl (fun ls hl => ?_)
            refine lv_goto (tgt := 3) hx hb dX9_stand_58 (by decide) ?_
            exact ih3 (i + 1) fp2 (by omega) (by omega) (out_n (by omega) (by omega) hf (fun z => by first | exact c25 z.1 | exact z.2 c41)) _ _ hP hD hS ls (lv_sub hl [1, 2, 3, 4, 0] rfl)
          · refine lv_aload_n hx hb dX9_stand_44 rfl (lv_at hl 0 rfl) ?_
            refine va_get (ci := 8) (v := .ref (b 3)) (C := RX9) (T := TX9) (N := 8) hx hb hts hinX9 hown hK hP 0 rfl rfl 3 (by decide) hf24 (fun _ h9 => h9) rfl dX9_stand_45 ?_
            refine lv_iload hx hb dX9_stand_48 (lv_at hl 4 rfl) ?_
            refine lv_dup2_11 hx hb dX9_stand_50 rfl rfl ?_
            refine ldN (f := fp2) hx hb hK hP 4 rfl (j := i) (by omega) (by decide) dX9_stand_51 ?_
            refine lv_iconst (v := nI 1) hx hb dX9_stand_52 (by decide) ?_
            refine lv_isub hx hb dX9_stand_53 ?_
            refine stN (f := fp2) (ws' := [(a, .inr (8, [.ref (b 0), .ref (b 1), .ref (b 2), .ref (b 3), .int (t 1), .int (t 2), .int (t 3), .int (t 0)])), ((b 0), wRef (cy 2) 8 S), ((b 1), wInt (cy 0) 8 (fun j => t (13 + j))), ((b 2), wInt (cy 0) 8 (fun j => t (21 + j))), ((b 3), wInt (cy 0) 8 (upd fp2 i (fp2 i - nI 1)))]) hx hb hK hP hD hS 4 rfl (j := i) (by omega) (by decide) dX9_stand_54 rfl (fun H locs hP hD hS => ?_)
            refine lv_iinc (v := nI (i + 1)) (lv' := [(4, .int (nI (i + 1))), (0, .ref a), (1, .int (nI c)), (2, .int d), (3, .int o)]) hx hb dX9_stand_55 hl (k := 4) rfl (nI_1 _) (by decide) rfl (fun ls hl => ?_)
            refine lv_goto (tgt := 3) hx hb dX9_stand_58 (by decide) ?_
            exact ih3 (i + 1) (upd fp2 i (fp2 i - nI 1)) (by omega) (by omega) (out_y (by omega) (by omega) hf c25 c41) _ _ hP hD hS ls (lv_sub hl [1, 2, 3, 4, 0] rfl)
  exact lp3 (n - 0 + 1) 0 (fun j => t (29 + j)) (by omega) (by omega) (fun j hj => rfl) _ _ hP hD hS ls (lv_sub hl [1, 2, 3, 4, 0] rfl)
set_option maxHeartbeats 4000000 in
set_option maxRecDepth 100000 in
theorem k_X9_changePlaces (l : Launch) (D : va_G) (cy : Nat → ClassId) (sz : Nat) (a : Nat) (b : Nat → Nat) (S : Nat → Option Nat) (t : Nat → Int32) (c : Nat) (k : Nat) (hc : c < 8) (hk : k < 8) : Met l yX9_changePlaces wsX9_changePlaces (rmD 0) (pPre D (TY cy) ([(a, .inr (8, [.ref (b 0), .ref (b 1), .ref (b 2), .ref (b 3), .int (t 1), .int (t 2), .int (t 3), .int (t 0)])), ((b 0), wRef (cy 2) 8 S), ((b 1), wInt (cy 0) 8 (fun j => t (13 + j))), ((b 2), wInt (cy 0) 8 (fun j => t (21 + j))), ((b 3), wInt (cy 0) 8 (fun j => t (29 + j)))]) sz [.ref a, .int (nI c), .int (nI k)]) (pV D (TY cy) ([(a, .inr (8, [.ref (b 0), .ref (b 1), .ref (b 2), .ref (b 3), .int (t 1), .int (t 2), .int (t 3), .int (t 0)])), ((b 0), wRef (cy 2) 8 S), ((b 1), wInt (cy 0) 8 (fun j => t (13 + j))), ((b 2), wInt (cy 0) 8 (fun j => t (21 + j))), ((b 3), wInt (cy 0) 8 (fun j => t (29 + j)))]) sz (fun t2 : Nat → Int32 => [(a, .inr (8, [.ref (b 0), .ref (b 1), .ref (b 2), .ref (b 3), .int (t2 1), .int (t2 2), .int (t2 3), .int (t2 0)])), ((b 0), wRef (cy 2) 8 S), ((b 1), wInt (cy 0) 8 (fun j => t2 (13 + j))), ((b 2), wInt (cy 0) 8 (fun j => t2 (21 + j))), ((b 3), wInt (cy 0) 8 (fun j => t2 (29 + j)))]) (fun (u : (Nat → Int32)) => u = cpS t c k)) 0 0 (va_A ([(a, .inr (8, [.ref (b 0), .ref (b 1), .ref (b 2), .ref (b 3), .int (t 1), .int (t 2), .int (t 3), .int (t 0)])), ((b 0), wRef (cy 2) 8 S), ((b 1), wInt (cy 0) 8 (fun j => t (13 + j))), ((b 2), wInt (cy 0) 8 (fun j => t (21 + j))), ((b 3), wInt (cy 0) 8 (fun j => t (29 + j)))]) sz) := by
  refine ent_v (cc := cX9_changePlaces) (maxL := 4) (by decide +kernel) rfl (Nat.le_of_ble_eq_true rfl) ?_
  intro p_ e_ s_ m_ args_ below_ meth_ c_ A_ Q_ ls B0 ret
  obtain ⟨CF, hA, hKN, hP, hD, hl⟩ := B0
  have hK := hKN.1
  obtain ⟨hx, hb, hml, hown, hts⟩ := id CF
  have hS : va_S A_ s_.heap s_.heap [] := va_S.rf
  have hl : lv_has ls 4 [(0, .ref a), (1, .int (nI c)), (2, .int (nI k))] := hl
  have hf24 := hts (.fieldLink RX9 24 "DrawerCards$Shelf" "place" "[I") (by decide +kernel)
  have hinX9 := show ∀ w ∈ u_ws RX9 TX9 8, w ∈ wsX9_changePlaces from by decide +kernel
  refine lv_aload_n hx hb dX9_changePlaces_0 rfl (lv_at hl 0 rfl) ?_
  refine va_get (ci := 8) (v := .ref (b 3)) (C := RX9) (T := TX9) (N := 8) hx hb hts hinX9 hown hK hP 0 rfl rfl 3 (by decide) hf24 (fun _ h9 => h9) rfl dX9_changePlaces_1 ?_
  refine lv_iload_n hx hb dX9_changePlaces_4 rfl (lv_at hl 1 rfl) ?_
  refine ldN (f := fun j => t (29 + j)) hx hb hK hP 4 rfl (j := c) (by omega) (by decide) dX9_changePlaces_5 ?_
  refine top_i (y := (t (29 + c))) rfl ?_
  refine lv_istore_n (lv' := [(3, .int (t (29 + c))), (0, .ref a), (1, .int (nI c)), (2, .int (nI k))]) hx hb dX9_changePlaces_6 rfl hl (by decide) rfl (fun ls hl => ?_)
  refine lv_aload_n hx hb dX9_changePlaces_7 rfl (lv_at hl 1 rfl) ?_
  refine va_get (ci := 8) (v := .ref (b 3)) (C := RX9) (T := TX9) (N := 8) hx hb hts hinX9 hown hK hP 0 rfl rfl 3 (by decide) hf24 (fun _ h9 => h9) rfl dX9_changePlaces_8 ?_
  refine lv_iload_n hx hb dX9_changePlaces_11 rfl (lv_at hl 2 rfl) ?_
  refine lv_aload_n hx hb dX9_changePlaces_12 rfl (lv_at hl 1 rfl) ?_
  refine va_get (ci := 8) (v := .ref (b 3)) (C := RX9) (T := TX9) (N := 8) hx hb hts hinX9 hown hK hP 0 rfl rfl 3 (by decide) hf24 (fun _ h9 => h9) rfl dX9_changePlaces_13 ?_
  refine lv_iload_n hx hb dX9_changePlaces_16 rfl (lv_at hl 3 rfl) ?_
  refine ldN (f := fun j => t (29 + j)) hx hb hK hP 4 rfl (j := k) (by omega) (by decide) dX9_changePlaces_17 ?_
  refine top_i (y := (t (29 + k))) rfl ?_
  refine stN (f := fun j => t (29 + j)) (ws' := [(a, .inr (8, [.ref (b 0), .ref (b 1), .ref (b 2), .ref (b 3), .int (t 1), .int (t 2), .int (t 3), .int (t 0)])), ((b 0), wRef (cy 2) 8 S), ((b 1), wInt (cy 0) 8 (fun j => t (13 + j))), ((b 2), wInt (cy 0) 8 (fun j => t (21 + j))), ((b 3), wInt (cy 0) 8 (upd (fun j => t (29 + j)) c (t (29 + k))))]) hx hb hK hP hD hS 4 rfl (j := c) (by omega) (by decide) dX9_changePlaces_18 rfl (fun H locs hP hD hS => ?_)
  refine lv_aload_n hx hb dX9_changePlaces_19 rfl (lv_at hl 1 rfl) ?_
  refine va_get (ci := 8) (v := .ref (b 3)) (C := RX9) (T := TX9) (N := 8) hx hb hts hinX9 hown hK hP 0 rfl rfl 3 (by decide) hf24 (fun _ h9 => h9) rfl dX9_changePlaces_20 ?_
  refine lv_iload_n hx hb dX9_changePlaces_23 rfl (lv_at hl 3 rfl) ?_
  refine lv_iload_n hx hb dX9_changePlaces_24 rfl (lv_at hl 0 rfl) ?_
  refine stN (f := upd (fun j => t (29 + j)) c (t (29 + k))) (ws' := [(a, .inr (8, [.ref (b 0), .ref (b 1), .ref (b 2), .ref (b 3), .int (t 1), .int (t 2), .int (t 3), .int (t 0)])), ((b 0), wRef (cy 2) 8 S), ((b 1), wInt (cy 0) 8 (fun j => t (13 + j))), ((b 2), wInt (cy 0) 8 (fun j => t (21 + j))), ((b 3), wInt (cy 0) 8 (upd (upd (fun j => t (29 + j)) c (t (29 + k))) k (t (29 + c))))]) hx hb hK hP hD hS 4 rfl (j := k) (by omega) (by decide) dX9_changePlaces_25 rfl (fun H locs hP hD hS => ?_)
  exact ret (cpS t c k) _ _ _ _ dX9_changePlaces_26 rfl (sWc (t := cpS t c k) hP (by rw [cpS_lo _ _ _ (by omega)]) (by rw [cpS_lo _ _ _ (by omega)]) (by rw [cpS_lo _ _ _ (by omega)]) (by rw [cpS_lo _ _ _ (by omega)]) (fun j hj => (by rw [cpS_lo _ _ _ (by omega)])) (fun j hj => by rw [cpS_lo _ _ _ (by omega)]) (cpQ t)) (sWd (t := cpS t c k) hD (by rw [cpS_lo _ _ _ (by omega)]) (by rw [cpS_lo _ _ _ (by omega)]) (by rw [cpS_lo _ _ _ (by omega)]) (by rw [cpS_lo _ _ _ (by omega)])) hS
set_option maxHeartbeats 4000000 in
set_option maxRecDepth 100000 in
theorem k_X9_reverse (l : Launch) (D : va_G) (cy : Nat → ClassId) (sz : Nat) (a : Nat) (b : Nat → Nat) (S : Nat → Option Nat) (t : Nat → Int32) (d : Int32) (n : Nat) (hn : n ≤ 8) (h3 : t 3 = nI n) : Met l yX9_reverse wsX9_reverse (rmD 1) (pPre D (TY cy) ([(a, .inr (8, [.ref (b 0), .ref (b 1), .ref (b 2), .ref (b 3), .int (t 1), .int (t 2), .int (t 3), .int (t 0)])), ((b 0), wRef (cy 2) 8 S), ((b 1), wInt (cy 0) 8 (fun j => t (13 + j))), ((b 2), wInt (cy 0) 8 (fun j => t (21 + j))), ((b 3), wInt (cy 0) 8 (fun j => t (29 + j)))]) sz [.ref a, .int d]) (pV D (TY cy) ([(a, .inr (8, [.ref (b 0), .ref (b 1), .ref (b 2), .ref (b 3), .int (t 1), .int (t 2), .int (t 3), .int (t 0)])), ((b 0), wRef (cy 2) 8 S), ((b 1), wInt (cy 0) 8 (fun j => t (13 + j))), ((b 2), wInt (cy 0) 8 (fun j => t (21 + j))), ((b 3), wInt (cy 0) 8 (fun j => t (29 + j)))]) sz (fun t2 : Nat → Int32 => [(a, .inr (8, [.ref (b 0), .ref (b 1), .ref (b 2), .ref (b 3), .int (t2 1), .int (t2 2), .int (t2 3), .int (t2 0)])), ((b 0), wRef (cy 2) 8 S), ((b 1), wInt (cy 0) 8 (fun j => t2 (13 + j))), ((b 2), wInt (cy 0) 8 (fun j => t2 (21 + j))), ((b 3), wInt (cy 0) 8 (fun j => t2 (29 + j)))]) (fun (u : (Nat → Int32)) => u = trnN t d (fillN t d n) n)) 0 0 (va_A ([(a, .inr (8, [.ref (b 0), .ref (b 1), .ref (b 2), .ref (b 3), .int (t 1), .int (t 2), .int (t 3), .int (t 0)])), ((b 0), wRef (cy 2) 8 S), ((b 1), wInt (cy 0) 8 (fun j => t (13 + j))), ((b 2), wInt (cy 0) 8 (fun j => t (21 + j))), ((b 3), wInt (cy 0) 8 (fun j => t (29 + j)))]) sz) := by
  refine ent_v (cc := cX9_reverse) (maxL := 4) (by decide +kernel) rfl (Nat.le_of_ble_eq_true rfl) ?_
  intro p_ e_ s_ m_ args_ below_ meth_ c_ A_ Q_ ls B0 ret
  obtain ⟨CF, hA, hKN, hP, hD, hl⟩ := B0
  have hK := hKN.1
  obtain ⟨hx, hb, hml, hown, hts⟩ := id CF
  have hS : va_S A_ s_.heap s_.heap [] := va_S.rf
  have hl : lv_has ls 4 [(0, .ref a), (1, .int d)] := hl
  have hf34 := hts (.fieldLink RX9 34 "DrawerCards$Shelf" "cards" "I") (by decide +kernel)
  have hinX9 := show ∀ w ∈ u_ws RX9 TX9 8, w ∈ wsX9_reverse from by decide +kernel
  have hf21 := hts (.fieldLink RX9 21 "DrawerCards$Shelf" "in" "[I") (by decide +kernel)
  have hf24 := hts (.fieldLink RX9 24 "DrawerCards$Shelf" "place" "[I") (by decide +kernel)
  refine lv_aload_n hx hb dX9_reverse_0 rfl (lv_at hl 0 rfl) ?_
  refine lv_iload_n hx hb dX9_reverse_1 rfl (lv_at hl 1 rfl) ?_
  refine call_i (wr := []) (ws' := (fun _ : Unit => [(a, .inr (8, [.ref (b 0), .ref (b 1), .ref (b 2), .ref (b 3), .int (t 1), .int (t 2), .int (t 3), .int (t 0)])), ((b 0), wRef (cy 2) 8 S), ((b 1), wInt (cy 0) 8 (fun j => t (13 + j))), ((b 2), wInt (cy 0) 8 (fun j => t (21 + j))), ((b 3), wInt (cy 0) 8 (fun j => t (29 + j)))])) (va_runV (As := [.int d]) (rest := []) CF (k_X9_fill l D cy _ a b S t d n (by first | assumption | omega | decide) (by first | assumption | omega | decide)) (cwV 1 hts gX9_reverse_X9_fill rfl rfl rfl (by decide +kernel) ⟨Nat.le_of_ble_eq_true rfl, Nat.le_of_ble_eq_true rfl⟩) (pre_V hKN hP hD [0, 1, 2, 3, 4] rfl (by decide) 0 8 rfl rfl) rfl rfl hl.1 rfl (lv_room (Nat.le_of_ble_eq_true rfl)) dX9_reverse_2 ⟨Nat.le_of_ble_eq_true rfl, Nat.le_of_ble_eq_true rfl⟩) hS hA hP hD [0, 1, 2, 3, 4] [] [0, 1, 2, 3, 4] rfl rfl (by decide) (by decide) (fun _ => rfl) (by decide) (fun r2 u1 H locs hw3 hP hD hS => ?_)
  replace hw3 := hw3.symm; subst hw3
  refine lv_iconst (v := nI 1) hx hb dX9_reverse_5 (by decide) ?_
  refine lv_isub hx hb dX9_reverse_6 ?_
  refine lv_istore_n (lv' := [(2, .int (fillN t d n - nI 1)), (0, .ref a), (1, .int d)]) hx hb dX9_reverse_7 rfl hl (by decide) rfl (fun ls hl => ?_)
  refine lv_iconst (v := nI 0) hx hb dX9_reverse_8 (by decide) ?_
  refine lv_istore_n (lv' := [(3, .int (nI 0)), (2, .int (fillN t d n - nI 1)), (0, .ref a), (1, .int d)]) hx hb dX9_reverse_9 rfl hl (by decide) rfl (fun ls hl => ?_)
  have lp10 : ∀ f_ : Nat, ∀ (i : Nat) (fp2 : Nat → Int32), (n - i) < f_ → (i ≤ n) → (∀ j, j < 8 → fp2 j = trnN t d (fillN t d n) i (29 + j)) → ∀ (H : Heap) (locs : List Loc), va_P D vwCl ([(a, .inr (8, [.ref (b 0), .ref (b 1), .ref (b 2), .ref (b 3), .int (t 1), .int (t 2), .int (t 3), .int (t 0)])), ((b 0), wRef (cy 2) 8 S), ((b 1), wInt (cy 0) 8 (fun j => t (13 + j))), ((b 2), wInt (cy 0) 8 (fun j => t (21 + j))), ((b 3), wInt (cy 0) 8 fp2)]) H → va_D A_ ([(a, .inr (8, [.ref (b 0), .ref (b 1), .ref (b 2), .ref (b 3), .int (t 1), .int (t 2), .int (t 3), .int (t 0)])), ((b 0), wRef (cy 2) 8 S), ((b 1), wInt (cy 0) 8 (fun j => t (13 + j))), ((b 2), wInt (cy 0) 8 (fun j => t (21 + j))), ((b 3), wInt (cy 0) 8 fp2)]) → va_S A_ s_.heap H locs → ∀ ls : Array Slot, lv_has ls 4 [(0, .ref a), (1, .int d), (2, .int (fillN t d n - nI 1)), (3, .int (nI i))] → W p_ l e_ (rmD 1) s_ m_ args_ below_ meth_ c_ H locs 0 0 Q_ (F0 m_ 10 ls []) := by
    intro f_
    induction f_ with
    | zero => intro i fp2 hm_; exact absurd hm_ (by omega)
    | succ f_ ih10 =>
      intro i fp2 hm_ hi hf H locs hP hD hS ls hl
      refine lv_iload_n hx hb dX9_reverse_10 rfl (lv_at hl 3 rfl) ?_
      refine lv_aload_n hx hb dX9_reverse_11 rfl (lv_at hl 0 rfl) ?_
      refine va_get (ci := 8) (v := .int (t 3)) (C := RX9) (T := TX9) (N := 8) hx hb hts hinX9 hown hK hP 0 rfl rfl 6 (by decide) hf34 (fun _ h9 => h9) rfl dX9_reverse_12 ?_
      refine top_i h3 ?_
      refine geN (tgt := 48) hx hb (by omega) (by omega) dX9_reverse_15 (by decide) (fun c15 => ?_) (fun c15 => ?_)
      · exact ret (trnN t d (fillN t d n) n) _ _ _ _ dX9_reverse_48 rfl (sWc (t := trnN t d (fillN t d n) n) hP (by rw [trnN_lo _ _ _ (by omega)]) (by rw [trnN_lo _ _ _ (by omega)]) (by rw [trnN_lo _ _ _ (by omega)]) (by rw [trnN_lo _ _ _ (by omega)]) (fun j hj => (by rw [trnN_lo _ _ _ (by omega)])) (fun j hj => by rw [trnN_lo _ _ _ (by omega)]) ((show i = n by omega) ▸ hf)) (sWd (t := trnN t d (fillN t d n) n) hD (by rw [trnN_lo _ _ _ (by omega)]) (by rw [trnN_lo _ _ _ (by omega)]) (by rw [trnN_lo _ _ _ (by omega)]) (by rw [trnN_lo _ _ _ (by omega)])) hS
      · refine lv_aload_n hx hb dX9_reverse_18 rfl (lv_at hl 0 rfl) ?_
        refine va_get (ci := 8) (v := .ref (b 2)) (C := RX9) (T := TX9) (N := 8) hx hb hts hinX9 hown hK hP 0 rfl rfl 2 (by decide) hf21 (fun _ h9 => h9) rfl dX9_reverse_19 ?_
        refine lv_iload_n hx hb dX9_reverse_22 rfl (lv_at hl 3 rfl) ?_
        refine ldN (f := fun j => t (21 + j)) hx hb hK hP 3 rfl (j := i) (by omega) (by decide) dX9_reverse_23 ?_
        refine top_i (y := (t (21 + i))) rfl ?_
        refine lv_iload_n hx hb dX9_reverse_24 rfl (lv_at hl 1 rfl) ?_
        refine lv_icmp_ne (tgt := 42) hx hb dX9_reverse_25 (by decide) (fun c25 => ?_) (fun c25 => ?_)
        · refine lv_iinc (v := nI (i + 1)) (lv' := [(3, .int (nI (i + 1))), (0, .ref a), (1, .int d), (2, .int (fillN t d n - nI 1))]) hx hb dX9_reverse_42 hl (k := 3) rfl (nI_1 _) (by decide) rfl (fun ls hl => ?_)
          refine lv_goto (tgt := 10) hx hb dX9_reverse_45 (by decide) ?_
          exact ih10 (i + 1) fp2 (by omega) (by omega) (trn_n (by omega) hf c25) _ _ hP hD hS ls (lv_sub hl [1, 2, 3, 0] rfl)
        · refine lv_aload_n hx hb dX9_reverse_28 rfl (lv_at hl 0 rfl) ?_
          refine va_get (ci := 8) (v := .ref (b 3)) (C := RX9) (T := TX9) (N := 8) hx hb hts hinX9 hown hK hP 0 rfl rfl 3 (by decide) hf24 (fun _ h9 => h9) rfl dX9_reverse_29 ?_
          refine lv_iload_n hx hb dX9_reverse_32 rfl (lv_at hl 3 rfl) ?_
          refine lv_iload_n hx hb dX9_reverse_33 rfl (lv_at hl 2 rfl) ?_
          refine lv_aload_n hx hb dX9_reverse_34 rfl (lv_at hl 0 rfl) ?_
          refine va_get (ci := 8) (v := .ref (b 3)) (C := RX9) (T := TX9) (N := 8) hx hb hts hinX9 hown hK hP 0 rfl rfl 3 (by decide) hf24 (fun _ h9 => h9) rfl dX9_reverse_35 ?_
          refine lv_iload_n hx hb dX9_reverse_38 rfl (lv_at hl 3 rfl) ?_
          refine ldN (f := fp2) hx hb hK hP 4 rfl (j := i) (by omega) (by decide) dX9_reverse_39 ?_
          refine lv_isub hx hb dX9_reverse_40 ?_
          refine stN (f := fp2) (ws' := [(a, .inr (8, [.ref (b 0), .ref (b 1), .ref (b 2), .ref (b 3), .int (t 1), .int (t 2), .int (t 3), .int (t 0)])), ((b 0), wRef (cy 2) 8 S), ((b 1), wInt (cy 0) 8 (fun j => t (13 + j))), ((b 2), wInt (cy 0) 8 (fun j => t (21 + j))), ((b 3), wInt (cy 0) 8 (upd fp2 i ((fillN t d n - nI 1) - fp2 i)))]) hx hb hK hP hD hS 4 rfl (j := i) (by omega) (by decide) dX9_reverse_41 rfl (fun H locs hP hD hS => ?_)
          refine lv_iinc (v := nI (i + 1)) (lv' := [(3, .int (nI (i + 1))), (0, .ref a), (1, .int d), (2, .int (fillN t d n - nI 1))]) hx hb dX9_reverse_42 hl (k := 3) rfl (nI_1 _) (by decide) rfl (fun ls hl => ?_)
          refine lv_goto (tgt := 10) hx hb dX9_reverse_45 (by decide) ?_
          exact ih10 (i + 1) (upd fp2 i ((fillN t d n - nI 1) - fp2 i)) (by omega) (by omega) (trn_y (by omega) hf c25) _ _ hP hD hS ls (lv_sub hl [1, 2, 3, 0] rfl)
  exact lp10 (n - 0 + 1) 0 (fun j => t (29 + j)) (by omega) (by omega) (fun j hj => rfl) _ _ hP hD hS ls (lv_sub hl [2, 3, 1, 0] rfl)
set_option maxHeartbeats 4000000 in
set_option maxRecDepth 100000 in
theorem k_X9_begin (l : Launch) (D : va_G) (cy : Nat → ClassId) (sz : Nat) (a : Nat) (b : Nat → Nat) (S : Nat → Option Nat) (t : Nat → Int32) (d : Int32) (h : Int32)  : Met l yX9_begin wsX9_begin (rmD 0) (pPre D (TY cy) ([(a, .inr (8, [.ref (b 0), .ref (b 1), .ref (b 2), .ref (b 3), .int (t 1), .int (t 2), .int (t 3), .int (t 0)])), ((b 0), wRef (cy 2) 8 S), ((b 1), wInt (cy 0) 8 (fun j => t (13 + j))), ((b 2), wInt (cy 0) 8 (fun j => t (21 + j))), ((b 3), wInt (cy 0) 8 (fun j => t (29 + j)))]) sz [.ref a, .int d, .int h]) (pV D (TY cy) ([(a, .inr (8, [.ref (b 0), .ref (b 1), .ref (b 2), .ref (b 3), .int (t 1), .int (t 2), .int (t 3), .int (t 0)])), ((b 0), wRef (cy 2) 8 S), ((b 1), wInt (cy 0) 8 (fun j => t (13 + j))), ((b 2), wInt (cy 0) 8 (fun j => t (21 + j))), ((b 3), wInt (cy 0) 8 (fun j => t (29 + j)))]) sz (fun t2 : Nat → Int32 => [(a, .inr (8, [.ref (b 0), .ref (b 1), .ref (b 2), .ref (b 3), .int (t2 1), .int (t2 2), .int (t2 3), .int (t2 0)])), ((b 0), wRef (cy 2) 8 S), ((b 1), wInt (cy 0) 8 (fun j => t2 (13 + j))), ((b 2), wInt (cy 0) 8 (fun j => t2 (21 + j))), ((b 3), wInt (cy 0) 8 (fun j => t2 (29 + j)))]) (fun (u : (Nat → Int32)) => u = bgS t d h)) 0 0 (va_A ([(a, .inr (8, [.ref (b 0), .ref (b 1), .ref (b 2), .ref (b 3), .int (t 1), .int (t 2), .int (t 3), .int (t 0)])), ((b 0), wRef (cy 2) 8 S), ((b 1), wInt (cy 0) 8 (fun j => t (13 + j))), ((b 2), wInt (cy 0) 8 (fun j => t (21 + j))), ((b 3), wInt (cy 0) 8 (fun j => t (29 + j)))]) sz) := by
  refine ent_v (cc := cX9_begin) (maxL := 3) (by decide +kernel) rfl (Nat.le_of_ble_eq_true rfl) ?_
  intro p_ e_ s_ m_ args_ below_ meth_ c_ A_ Q_ ls B0 ret
  obtain ⟨CF, hA, hKN, hP, hD, hl⟩ := B0
  have hK := hKN.1
  obtain ⟨hx, hb, hml, hown, hts⟩ := id CF
  have hS : va_S A_ s_.heap s_.heap [] := va_S.rf
  have hl : lv_has ls 3 [(0, .ref a), (1, .int d), (2, .int h)] := hl
  have hf27 := hts (.fieldLink RX9 27 "DrawerCards$Shelf" "drawers" "I") (by decide +kernel)
  have hinX9 := show ∀ w ∈ u_ws RX9 TX9 8, w ∈ wsX9_begin from by decide +kernel
  have hf31 := hts (.fieldLink RX9 31 "DrawerCards$Shelf" "holds" "I") (by decide +kernel)
  have hf34 := hts (.fieldLink RX9 34 "DrawerCards$Shelf" "cards" "I") (by decide +kernel)
  have hf37 := hts (.fieldLink RX9 37 "DrawerCards$Shelf" "night" "I") (by decide +kernel)
  refine lv_aload_n hx hb dX9_begin_0 rfl (lv_at hl 0 rfl) ?_
  refine lv_iload_n hx hb dX9_begin_1 rfl (lv_at hl 1 rfl) ?_
  refine va_put (ci := 8) (v := .int d) (ty := .int) (C := RX9) (T := TX9) (N := 8) hx hb hts hinX9 tyX9 tyX9_ok nmX9 hown hK hP hD hS 0 rfl rfl 4 (by decide) hf27 (fun _ h9 => h9) rfl (by decide +kernel) rfl rfl (Nat.le_of_ble_eq_true rfl) dX9_begin_2 (fun H locs hP hD hS => ?_)
  have hP : va_P D vwCl ([(a, .inr (8, [.ref (b 0), .ref (b 1), .ref (b 2), .ref (b 3), .int d, .int (t 2), .int (t 3), .int (t 0)])), ((b 0), wRef (cy 2) 8 S), ((b 1), wInt (cy 0) 8 (fun j => t (13 + j))), ((b 2), wInt (cy 0) 8 (fun j => t (21 + j))), ((b 3), wInt (cy 0) 8 (fun j => t (29 + j)))]) H := hP
  have hD : va_D A_ ([(a, .inr (8, [.ref (b 0), .ref (b 1), .ref (b 2), .ref (b 3), .int d, .int (t 2), .int (t 3), .int (t 0)])), ((b 0), wRef (cy 2) 8 S), ((b 1), wInt (cy 0) 8 (fun j => t (13 + j))), ((b 2), wInt (cy 0) 8 (fun j => t (21 + j))), ((b 3), wInt (cy 0) 8 (fun j => t (29 + j)))]) := hD
  refine lv_aload_n hx hb dX9_begin_5 rfl (lv_at hl 0 rfl) ?_
  refine lv_iload_n hx hb dX9_begin_6 rfl (lv_at hl 2 rfl) ?_
  refine va_put (ci := 8) (v := .int h) (ty := .int) (C := RX9) (T := TX9) (N := 8) hx hb hts hinX9 tyX9 tyX9_ok nmX9 hown hK hP hD hS 0 rfl rfl 5 (by decide) hf31 (fun _ h9 => h9) rfl (by decide +kernel) rfl rfl (Nat.le_of_ble_eq_true rfl) dX9_begin_7 (fun H locs hP hD hS => ?_)
  have hP : va_P D vwCl ([(a, .inr (8, [.ref (b 0), .ref (b 1), .ref (b 2), .ref (b 3), .int d, .int h, .int (t 3), .int (t 0)])), ((b 0), wRef (cy 2) 8 S), ((b 1), wInt (cy 0) 8 (fun j => t (13 + j))), ((b 2), wInt (cy 0) 8 (fun j => t (21 + j))), ((b 3), wInt (cy 0) 8 (fun j => t (29 + j)))]) H := hP
  have hD : va_D A_ ([(a, .inr (8, [.ref (b 0), .ref (b 1), .ref (b 2), .ref (b 3), .int d, .int h, .int (t 3), .int (t 0)])), ((b 0), wRef (cy 2) 8 S), ((b 1), wInt (cy 0) 8 (fun j => t (13 + j))), ((b 2), wInt (cy 0) 8 (fun j => t (21 + j))), ((b 3), wInt (cy 0) 8 (fun j => t (29 + j)))]) := hD
  refine lv_aload_n hx hb dX9_begin_10 rfl (lv_at hl 0 rfl) ?_
  refine lv_iconst (v := nI 0) hx hb dX9_begin_11 (by decide) ?_
  refine va_put (ci := 8) (v := .int (nI 0)) (ty := .int) (C := RX9) (T := TX9) (N := 8) hx hb hts hinX9 tyX9 tyX9_ok nmX9 hown hK hP hD hS 0 rfl rfl 6 (by decide) hf34 (fun _ h9 => h9) rfl (by decide +kernel) rfl rfl (Nat.le_of_ble_eq_true rfl) dX9_begin_12 (fun H locs hP hD hS => ?_)
  have hP : va_P D vwCl ([(a, .inr (8, [.ref (b 0), .ref (b 1), .ref (b 2), .ref (b 3), .int d, .int h, .int (nI 0), .int (t 0)])), ((b 0), wRef (cy 2) 8 S), ((b 1), wInt (cy 0) 8 (fun j => t (13 + j))), ((b 2), wInt (cy 0) 8 (fun j => t (21 + j))), ((b 3), wInt (cy 0) 8 (fun j => t (29 + j)))]) H := hP
  have hD : va_D A_ ([(a, .inr (8, [.ref (b 0), .ref (b 1), .ref (b 2), .ref (b 3), .int d, .int h, .int (nI 0), .int (t 0)])), ((b 0), wRef (cy 2) 8 S), ((b 1), wInt (cy 0) 8 (fun j => t (13 + j))), ((b 2), wInt (cy 0) 8 (fun j => t (21 + j))), ((b 3), wInt (cy 0) 8 (fun j => t (29 + j)))]) := hD
  refine lv_aload_n hx hb dX9_begin_15 rfl (lv_at hl 0 rfl) ?_
  refine lv_iconst (v := nI 0) hx hb dX9_begin_16 (by decide) ?_
  refine va_put (ci := 8) (v := .int (nI 0)) (ty := .int) (C := RX9) (T := TX9) (N := 8) hx hb hts hinX9 tyX9 tyX9_ok nmX9 hown hK hP hD hS 0 rfl rfl 7 (by decide) hf37 (fun _ h9 => h9) rfl (by decide +kernel) rfl rfl (Nat.le_of_ble_eq_true rfl) dX9_begin_17 (fun H locs hP hD hS => ?_)
  have hP : va_P D vwCl ([(a, .inr (8, [.ref (b 0), .ref (b 1), .ref (b 2), .ref (b 3), .int d, .int h, .int (nI 0), .int (nI 0)])), ((b 0), wRef (cy 2) 8 S), ((b 1), wInt (cy 0) 8 (fun j => t (13 + j))), ((b 2), wInt (cy 0) 8 (fun j => t (21 + j))), ((b 3), wInt (cy 0) 8 (fun j => t (29 + j)))]) H := hP
  have hD : va_D A_ ([(a, .inr (8, [.ref (b 0), .ref (b 1), .ref (b 2), .ref (b 3), .int d, .int h, .int (nI 0), .int (nI 0)])), ((b 0), wRef (cy 2) 8 S), ((b 1), wInt (cy 0) 8 (fun j => t (13 + j))), ((b 2), wInt (cy 0) 8 (fun j => t (21 + j))), ((b 3), wInt (cy 0) 8 (fun j => t (29 + j)))]) := hD
  exact ret (bgS t d h) _ _ _ _ dX9_begin_20 rfl (sWc (t := bgS t d h) hP rfl rfl rfl rfl (fun j hj => bgS_hi t d h (by omega)) (fun j hj => bgS_hi t d h (by omega)) (fun j hj => bgS_hi t d h (by omega))) (sWd (t := bgS t d h) hD rfl rfl rfl rfl) hS
