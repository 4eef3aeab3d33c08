/-! the law goes from call to call -/
theorem cmp6 {i L : Nat} (hi : i ≤ 4000) (hL : L ≤ 3072) (h : ¬ nI L - nI 6 < nI i) : i + 6 ≤ L := by
  have e1 : (nI i).toInt = i := nI_toInt (by omega)
  have e2 : (nI L).toInt = L := nI_toInt (by omega)
  have e3 : (nI 6).toInt = 6 := by decide
  rw [Int32.lt_iff_toInt_lt, Int32.toInt_sub, e1, e2, e3, Int.bmod_eq_of_le (by omega) (by omega)] at h
  omega
set_option maxHeartbeats 4000000 in
set_option maxRecDepth 100000 in
theorem law_loop {p : Program} {e : Env} {s : State} {m : MethodId} {below : List Frame} {meth : Method} {c : Code} {l : Launch} {b L : Nat} {xs : Nat → Int32} {D : va_G} {cy : Nat → ClassId} {h : Nat} {r : Nat → Nat} {c1 : Nat → Nat} {bb : Nat → Nat → Nat} {ra rb ia : Nat → Nat} {ib : Nat → Nat → Nat} {kd : Nat → Nat} (C0 : lw_At p s m meth c b L xs) (hL : L ≤ 3072) (hKN : KN D (TY cy) s) : ∀ (f i : Nat), L + 7 < i + f → i ≤ L + 6 → ∀ (u : XS) (v : Nat → Int32) (A : Nat → Nat → Int32) (n dr : Nat) (H : Heap) (locs : List Loc) (ls : Array Slot), RelX kd v A n dr u → va_P D vwCl (XW cy c1 bb ra rb ia ib kd u ++ mW cy h r v A) H → va_D (AS s) (XW cy c1 bb ra rb ia ib kd u ++ mW cy h r v A) → va_S (AS s) s.heap H locs → lv_has ls 4 [(0, .ref b), (1, .ref (c1 0)), (2, .ref h), (3, .int (nI i))] → W p l e room_1 s m #[Value.ref b] below meth c H locs 600000 7302250 (lw_Z below #[Value.ref b] s) (F0 m 18 ls []) := by
  obtain ⟨hx, hb, hr, hml, hown, hts, hX, hbl, hlocks, hgv⟩ := id C0
  have hbA : ¬ AS s b := Nat.not_le.mpr hbl
  intro f
  induction f with
  | zero => intro i hf hi; exact absurd hf (by omega)
  | succ f ih =>
    intro i hf hi u v A n dr H locs ls hR hP hD hS hl
    refine lv_iload_n hx hb dL_law_18 rfl (lv_at hl 3 rfl) ?_
    refine lv_aload_n hx hb dL_law_19 rfl (lv_at hl 0 rfl) ?_
    refine va_slen hx hb hX hbl hbA hS dL_law_20 ?_
    refine top_i (show Int32.ofNat L = nI L from rfl) ?_
    refine lv_bipush (v := nI 6) hx hb dL_law_21 (by decide) ?_
    refine lv_isub hx hb dL_law_23 ?_
    refine lv_icmp_gt (tgt := 1141) hx hb dL_law_24 (by decide) (fun _ => ?_) (fun c24 => ?_)
    · refine lv_iconst (v := 1) hx hb dL_law_1141 (by decide) ?_
      refine va_forget (fun q hq => hS.2.2 q hq) ?_
      exact lw_ret hx hb hr hlocks dL_law_1142
    · have hi6 := cmp6 (by omega) hL c24
      have kk : ∀ (u : XS) (v : Nat → Int32) (A : Nat → Nat → Int32) (n dr : Nat) (H : Heap) (locs : List Loc) (ls : Array Slot), RelX kd v A n dr u → va_P D vwCl (XW cy c1 bb ra rb ia ib kd u ++ mW cy h r v A) H → va_D (AS s) (XW cy c1 bb ra rb ia ib kd u ++ mW cy h r v A) → va_S (AS s) s.heap H locs → lv_has ls 4 [(0, .ref b), (1, .ref (c1 0)), (2, .ref h), (3, .int (nI i))] → W p l e room_1 s m #[Value.ref b] below meth c H locs 600000 7302250 (lw_Z below #[Value.ref b] s) (F0 m 1135 ls []) := by
        intro u v A n dr H locs ls hR hP hD hS hl
        refine lv_iinc (v := nI (i + 6)) (lv' := [(3, .int (nI (i + 6))), (0, .ref b), (1, .ref (c1 0)), (2, .ref h)]) hx hb dL_law_1135 hl (k := 3) rfl (nI_add i 6) (by decide) rfl (fun ls hl => ?_)
        refine lv_goto (tgt := 18) hx hb dL_law_1138 (by decide) ?_
        exact ih (i + 6) (by omega) (by omega) u v A n dr H locs ls hR hP hD hS (lv_sub hl [1, 2, 3, 0] rfl)
      refine lv_aload_n hx hb dL_law_27 rfl (lv_at hl 0 rfl) ?_
      refine lv_iload_n hx hb dL_law_28 rfl (lv_at hl 3 rfl) ?_
      refine sldN hx hb hX hbl hbA hS (j := i) (by omega) hL dL_law_29 ?_
      refine lv_bipush (v := nI 31) hx hb dL_law_30 (by decide) ?_
      refine lv_iand hx hb dL_law_32 ?_
      obtain ⟨z, ez⟩ : ∃ z, z = xs i &&& nI 31 := ⟨_, rfl⟩
      refine top_i ez.symm ?_
      rcases sw_cases z 0 31 with c33 | ⟨q, hq, c33⟩
      · refine lv_tableOut (tgt := 1135) hx hb dL_law_33 c33 (by decide) ?_
        exact kk u v A n dr _ _ _ hR hP hD hS hl
      · rcases (show q = 0 ∨ q = 1 ∨ q = 2 ∨ q = 3 ∨ q = 4 ∨ q = 5 ∨ q = 6 ∨ q = 7 ∨ q = 8 ∨ q = 9 ∨ q = 10 ∨ q = 11 ∨ q = 12 ∨ q = 13 ∨ q = 14 ∨ q = 15 ∨ q = 16 ∨ q = 17 ∨ q = 18 ∨ q = 19 ∨ q = 20 ∨ q = 21 ∨ q = 22 ∨ q = 23 ∨ q = 24 ∨ q = 25 ∨ q = 26 ∨ q = 27 ∨ q = 28 ∨ q = 29 ∨ q = 30 by omega) with eq_ | eq_ | eq_ | eq_ | eq_ | eq_ | eq_ | eq_ | eq_ | eq_ | eq_ | eq_ | eq_ | eq_ | eq_ | eq_ | eq_ | eq_ | eq_ | eq_ | eq_ | eq_ | eq_ | eq_ | eq_ | eq_ | eq_ | eq_ | eq_ | eq_ | eq_
        · subst eq_
          refine lv_tableIn (off := 139) (tgt := 172) hx hb dL_law_33 (by omega) (by omega) (sw_at c33 rfl) (by decide) ?_
          exact lc_row C0 hL hKN hi6 hR hP hD hS hl kk
        · subst eq_
          refine lv_tableIn (off := 182) (tgt := 215) hx hb dL_law_33 (by omega) (by omega) (sw_at c33 rfl) (by decide) ?_
          exact lc_set C0 hL hKN hi6 hR hP hD hS hl kk
        · subst eq_
          refine lv_tableIn (off := 225) (tgt := 258) hx hb dL_law_33 (by omega) (by omega) (sw_at c33 rfl) (by decide) ?_
          exact lc_copy C0 hL hKN hi6 hR hP hD hS hl kk
        · subst eq_
          refine lv_tableIn (off := 288) (tgt := 321) hx hb dL_law_33 (by omega) (by omega) (sw_at c33 rfl) (by decide) ?_
          exact lc_drop C0 hL hKN hi6 hR hP hD hS hl kk
        · subst eq_
          refine lv_tableIn (off := 311) (tgt := 344) hx hb dL_law_33 (by omega) (by omega) (sw_at c33 rfl) (by decide) ?_
          exact lc_feed C0 hL hKN hi6 hR hP hD hS hl kk
        · subst eq_
          refine lv_tableIn (off := 334) (tgt := 367) hx hb dL_law_33 (by omega) (by omega) (sw_at c33 rfl) (by decide) ?_
          exact lc_catalogue C0 hL hKN hi6 hR hP hD hS hl kk
        · subst eq_
          refine lv_tableIn (off := 347) (tgt := 380) hx hb dL_law_33 (by omega) (by omega) (sw_at c33 rfl) (by decide) ?_
          exact lc_fault C0 hL hKN hi6 hR hP hD hS hl kk
        · subst eq_
          refine lv_tableIn (off := 360) (tgt := 393) hx hb dL_law_33 (by omega) (by omega) (sw_at c33 rfl) (by decide) ?_
          exact lc_nights C0 hL hKN hi6 hR hP hD hS hl kk
        · subst eq_
          refine lv_tableIn (off := 383) (tgt := 416) hx hb dL_law_33 (by omega) (by omega) (sw_at c33 rfl) (by decide) ?_
          exact lc_put C0 hL hKN hi6 hR hP hD hS hl kk
        · subst eq_
          refine lv_tableIn (off := 416) (tgt := 449) hx hb dL_law_33 (by omega) (by omega) (sw_at c33 rfl) (by decide) ?_
          exact lc_turn C0 hL hKN hi6 hR hP hD hS hl kk
        · subst eq_
          refine lv_tableIn (off := 439) (tgt := 472) hx hb dL_law_33 (by omega) (by omega) (sw_at c33 rfl) (by decide) ?_
          exact lc_like C0 hL hKN hi6 hR hP hD hS hl kk
        · subst eq_
          refine lv_tableIn (off := 472) (tgt := 505) hx hb dL_law_33 (by omega) (by omega) (sw_at c33 rfl) (by decide) ?_
          exact lc_undo C0 hL hKN hi6 hR hP hD hS hl kk
        · subst eq_
          refine lv_tableIn (off := 485) (tgt := 518) hx hb dL_law_33 (by omega) (by omega) (sw_at c33 rfl) (by decide) ?_
          exact lc_card C0 hL hKN hi6 hR hP hD hS hl kk
        · subst eq_
          refine lv_tableIn (off := 518) (tgt := 551) hx hb dL_law_33 (by omega) (by omega) (sw_at c33 rfl) (by decide) ?_
          exact lc_drawer C0 hL hKN hi6 hR hP hD hS hl kk
        · subst eq_
          refine lv_tableIn (off := 551) (tgt := 584) hx hb dL_law_33 (by omega) (by omega) (sw_at c33 rfl) (by decide) ?_
          exact lc_ahead C0 hL hKN hi6 hR hP hD hS hl kk
        · subst eq_
          refine lv_tableIn (off := 594) (tgt := 627) hx hb dL_law_33 (by omega) (by omega) (sw_at c33 rfl) (by decide) ?_
          exact lc_found C0 hL hKN hi6 hR hP hD hS hl kk
        · subst eq_
          refine lv_tableIn (off := 627) (tgt := 660) hx hb dL_law_33 (by omega) (by omega) (sw_at c33 rfl) (by decide) ?_
          exact lc_still C0 hL hKN hi6 hR hP hD hS hl kk
        · subst eq_
          refine lv_tableIn (off := 650) (tgt := 683) hx hb dL_law_33 (by omega) (by omega) (sw_at c33 rfl) (by decide) ?_
          exact lc_mates C0 hL hKN hi6 hR hP hD hS hl kk
        · subst eq_
          refine lv_tableIn (off := 663) (tgt := 696) hx hb dL_law_33 (by omega) (by omega) (sw_at c33 rfl) (by decide) ?_
          exact lc_rods C0 hL hKN hi6 hR hP hD hS hl kk
        · subst eq_
          refine lv_tableIn (off := 716) (tgt := 749) hx hb dL_law_33 (by omega) (by omega) (sw_at c33 rfl) (by decide) ?_
          exact lc_tour C0 hL hKN hi6 hR hP hD hS hl kk
        · subst eq_
          refine lv_tableIn (off := 749) (tgt := 782) hx hb dL_law_33 (by omega) (by omega) (sw_at c33 rfl) (by decide) ?_
          exact lc_fits C0 hL hKN hi6 hR hP hD hS hl kk
        · subst eq_
          refine lv_tableIn (off := 812) (tgt := 845) hx hb dL_law_33 (by omega) (by omega) (sw_at c33 rfl) (by decide) ?_
          exact lc_asleep C0 hL hKN hi6 hR hP hD hS hl kk
        · subst eq_
          refine lv_tableIn (off := 865) (tgt := 898) hx hb dL_law_33 (by omega) (by omega) (sw_at c33 rfl) (by decide) ?_
          exact lc_drawn C0 hL hKN hi6 hR hP hD hS hl kk
        · subst eq_
          refine lv_tableIn (off := 908) (tgt := 941) hx hb dL_law_33 (by omega) (by omega) (sw_at c33 rfl) (by decide) ?_
          exact lc_image C0 hL hKN hi6 hR hP hD hS hl kk
        · subst eq_
          refine lv_tableIn (off := 931) (tgt := 964) hx hb dL_law_33 (by omega) (by omega) (sw_at c33 rfl) (by decide) ?_
          exact lc_restore C0 hL hKN hi6 hR hP hD hS hl kk
        · subst eq_
          refine lv_tableIn (off := 954) (tgt := 987) hx hb dL_law_33 (by omega) (by omega) (sw_at c33 rfl) (by decide) ?_
          exact lc_kind C0 hL hKN hi6 hR hP hD hS hl kk
        · subst eq_
          refine lv_tableIn (off := 977) (tgt := 1010) hx hb dL_law_33 (by omega) (by omega) (sw_at c33 rfl) (by decide) ?_
          exact lc_as C0 hL hKN hi6 hR hP hD hS hl kk
        · subst eq_
          refine lv_tableIn (off := 1010) (tgt := 1043) hx hb dL_law_33 (by omega) (by omega) (sw_at c33 rfl) (by decide) ?_
          exact lc_ask C0 hL hKN hi6 hR hP hD hS hl kk
        · subst eq_
          refine lv_tableIn (off := 1043) (tgt := 1076) hx hb dL_law_33 (by omega) (by omega) (sw_at c33 rfl) (by decide) ?_
          exact lc_trace C0 hL hKN hi6 hR hP hD hS hl kk
        · subst eq_
          refine lv_tableIn (off := 1066) (tgt := 1099) hx hb dL_law_33 (by omega) (by omega) (sw_at c33 rfl) (by decide) ?_
          exact lc_count C0 hL hKN hi6 hR hP hD hS hl kk
        · subst eq_
          refine lv_tableIn (off := 1089) (tgt := 1122) hx hb dL_law_33 (by omega) (by omega) (sw_at c33 rfl) (by decide) ?_
          exact lc_status C0 hL hKN hi6 hR hP hD hS hl kk
