/-! the law: a row for each call -/
abbrev AS (s : State) : Nat → Prop := fun q => s.heap.size ≤ q
theorem XW_0 (cy : Nat → ClassId) (c : Nat → Nat) (bb : Nat → Nat → Nat) (ra rb ia : Nat → Nat) (ib : Nat → Nat → Nat) (kd : Nat → Nat) (u : XS) : ∃ fs, (XW cy c bb ra rb ia ib kd u)[0]? = some (c 0, .inr (10, fs)) := by
  obtain ⟨⟨ac, fi, lf⟩, ⟨rl, rz, rf⟩, ⟨L, w4, p, w6, w7, w8, w9, tf⟩, ⟨Sr, tr⟩, ⟨S0, t0⟩, ⟨S1, t1, S2, t2, fs⟩, ⟨z, cd, lk, pl, kf⟩, ⟨pa, pb, pS, pt⟩, ⟨iS, it⟩⟩ := u
  exact ⟨_, rfl⟩
section SLD
variable {p : Program} {l : Launch} {e : Env} {R : Room} {s : State} {m : MethodId} {args : Array Value} {below : List Frame} {meth : Method} {c : Code} {H : Heap} {locs : List Loc} {cells slots : Nat} {Q : State → Prop} {pc : Nat} {ls : Array Slot} {rest : List Value} {cc : ByteArray} {A : Nat → Prop} {H0 : Heap}
theorem sldN (hexec : p.tables.exec = Jvm.exec) (hb : c.code = cc) {b L : Nat} {xs : Nat → Int32} (hX : va_X b L xs s H0) (hbl : b < H0.size) (hbA : ¬ A b) (hS : va_S A H0 H locs) {j : Nat} (hj : j < L) (hL : L ≤ 3072) (hdg : decode cc pc = .ok (.iaload, 1))
    (kk : W p l e R s m args below meth c H locs cells slots Q (F0 m (pc + 1) ls (.int (xs j) :: rest))) : W p l e R s m args below meth c H locs cells slots Q (F0 m pc ls (.int (nI j) :: .ref b :: rest)) := by
  refine va_sld hexec hb hX hbl hbA hS (vp_in_nI hj (by omega)) hdg ?_
  rw [nI_clamp (by omega)]
  exact kk
end SLD
set_option maxHeartbeats 4000000 in
set_option maxRecDepth 100000 in
theorem lc_row {p : Program} {e : Env} {s : State} {m : MethodId} {below : List Frame} {meth : Method} {c : Code} {l : Launch} {b L : Nat} {xs : Nat → Int32} {D : va_G} {cy : Nat → ClassId} {h : Nat} {r : Nat → Nat} {c1 : Nat → Nat} {bb : Nat → Nat → Nat} {ra rb ia : Nat → Nat} {ib : Nat → Nat → Nat} {kd : Nat → Nat} {Q : State → Prop} (C0 : lw_At p s m meth c b L xs) (hL : L ≤ 3072) (hKN : KN D (TY cy) s) {i : Nat} (hi : i + 6 ≤ L) {u : XS} {v : Nat → Int32} {A : Nat → Nat → Int32} {n dr : Nat} (hR : RelX kd v A n dr u) {H : Heap} {locs : List Loc} {ls : Array Slot} (hP : va_P D vwCl (XW cy c1 bb ra rb ia ib kd u ++ mW cy h r v A) H) (hD : va_D (AS s) (XW cy c1 bb ra rb ia ib kd u ++ mW cy h r v A)) (hS : va_S (AS s) s.heap H locs) (hl : lv_has ls 4 [(0, .ref b), (1, .ref (c1 0)), (2, .ref h), (3, .int (nI i))]) (kk : ∀ (u : XS) (v : Nat → Int32) (A : Nat → Nat → Int32) (n dr : Nat) (H : Heap) (locs : List Loc) (ls : Array Slot), RelX kd v A n dr u → va_P D vwCl (XW cy c1 bb ra rb ia ib kd u ++ mW cy h r v A) H → va_D (AS s) (XW cy c1 bb ra rb ia ib kd u ++ mW cy h r v A) → va_S (AS s) s.heap H locs → lv_has ls 4 [(0, .ref b), (1, .ref (c1 0)), (2, .ref h), (3, .int (nI i))] → W p l e room_1 s m #[Value.ref b] below meth c H locs 600000 7302250 Q (F0 m 1135 ls [])) : W p l e room_1 s m #[Value.ref b] below meth c H locs 600000 7302250 Q (F0 m 172 ls []) := by
  obtain ⟨hx, hb, hr, hml, hown, hts, hX, hbl, hlocks, hgv⟩ := id C0
  have hts' : ∀ w ∈ wsL_law, w.before #[Value.ref b] s = true := fun w h => hts w (wsL_law_in w h)
  have CF : CallFix p m c cL_law 4 s #[Value.ref b] wsL_law RL := ⟨hx, hb, hml, hown, hts'⟩
  have hA : ∀ q : Nat, s.heap.size ≤ q → AS s q := fun _ h => h
  have hbA : ¬ AS s b := Nat.not_le.mpr hbl
  obtain ⟨fs0, hx0⟩ := XW_0 cy c1 bb ra rb ia ib kd u
  refine lv_aload_n hx hb dL_law_172 rfl (lv_at hl 1 rfl) ?_
  refine lv_aload_n hx hb dL_law_173 rfl (lv_at hl 0 rfl) ?_
  refine lv_iload_n hx hb dL_law_174 rfl (lv_at hl 3 rfl) ?_
  refine lv_iconst (v := nI 1) hx hb dL_law_175 (by decide) ?_
  refine adN (k := i + 1) hx hb rfl dL_law_176 ?_
  refine sldN hx hb hX hbl hbA hS (j := i + 1) (by omega) hL dL_law_177 ?_
  refine lv_aload_n hx hb dL_law_178 rfl (lv_at hl 0 rfl) ?_
  refine lv_iload_n hx hb dL_law_179 rfl (lv_at hl 3 rfl) ?_
  refine lv_iconst (v := nI 2) hx hb dL_law_180 (by decide) ?_
  refine adN (k := i + 2) hx hb rfl dL_law_181 ?_
  refine sldN hx hb hX hbl hbA hS (j := i + 2) (by omega) hL dL_law_182 ?_
  refine lv_aload_n hx hb dL_law_183 rfl (lv_at hl 0 rfl) ?_
  refine lv_iload_n hx hb dL_law_184 rfl (lv_at hl 3 rfl) ?_
  refine lv_iconst (v := nI 3) hx hb dL_law_185 (by decide) ?_
  refine adN (k := i + 3) hx hb rfl dL_law_186 ?_
  refine sldN hx hb hX hbl hbA hS (j := i + 3) (by omega) hL dL_law_187 ?_
  refine call_iP (wc := XW cy c1 bb ra rb ia ib kd u) (wr := mW cy h r v A) (ws' := fun u_ : XS => XW cy c1 bb ra rb ia ib kd u_ ++ mW cy h r v A) (va_runV (As := [.int (xs (i + 1)), .int (xs (i + 2)), .int (xs (i + 3))]) (rest := []) CF (x_row l D cy _ c1 bb ra rb ia ib kd u v A n dr hR (xs (i + 1)) (xs (i + 2)) (xs (i + 3))) (cwV 3 hts' gL_law_X11_row rfl rfl rfl (by decide +kernel) ⟨Nat.le_of_ble_eq_true rfl, Nat.le_of_ble_eq_true rfl⟩) (pre_VP hKN hP hD (List.Perm.refl _) 0 10 rfl hx0) rfl rfl hl.1 rfl (lv_room (Nat.le_of_ble_eq_true rfl)) dL_law_188 ⟨Nat.le_of_ble_eq_true rfl, Nat.le_of_ble_eq_true rfl⟩) hS hA hP hD (List.Perm.refl _) (fun _ => List.Perm.refl _) (fun r1 u1 H locs hw hP hD hS => ?_)
  obtain ⟨e1, n1, dr1, hR1⟩ := hw
  refine lv_aload_n hx hb dL_law_191 rfl (lv_at hl 2 rfl) ?_
  refine lv_aload_n hx hb dL_law_192 rfl (lv_at hl 0 rfl) ?_
  refine lv_iload_n hx hb dL_law_193 rfl (lv_at hl 3 rfl) ?_
  refine lv_iconst (v := nI 1) hx hb dL_law_194 (by decide) ?_
  refine adN (k := i + 1) hx hb rfl dL_law_195 ?_
  refine sldN hx hb hX hbl hbA hS (j := i + 1) (by omega) hL dL_law_196 ?_
  refine lv_aload_n hx hb dL_law_197 rfl (lv_at hl 0 rfl) ?_
  refine lv_iload_n hx hb dL_law_198 rfl (lv_at hl 3 rfl) ?_
  refine lv_iconst (v := nI 2) hx hb dL_law_199 (by decide) ?_
  refine adN (k := i + 2) hx hb rfl dL_law_200 ?_
  refine sldN hx hb hX hbl hbA hS (j := i + 2) (by omega) hL dL_law_201 ?_
  refine lv_aload_n hx hb dL_law_202 rfl (lv_at hl 0 rfl) ?_
  refine lv_iload_n hx hb dL_law_203 rfl (lv_at hl 3 rfl) ?_
  refine lv_iconst (v := nI 3) hx hb dL_law_204 (by decide) ?_
  refine adN (k := i + 3) hx hb rfl dL_law_205 ?_
  refine sldN hx hb hX hbl hbA hS (j := i + 3) (by omega) hL dL_law_206 ?_
  refine call_iP (wc := mW cy h r v A) (wr := XW cy c1 bb ra rb ia ib kd u1) (ws' := fun w_ : MS => XW cy c1 bb ra rb ia ib kd u1 ++ mW cy h r w_.1 w_.2) (va_runV (As := [.int (xs (i + 1)), .int (xs (i + 2)), .int (xs (i + 3))]) (rest := [.int r1]) CF (y_row l D cy _ h r kd u v A n dr hR (xs (i + 1)) (xs (i + 2)) (xs (i + 3))) (cwV 3 hts' gL_law_X12_row rfl rfl rfl (by decide +kernel) ⟨Nat.le_of_ble_eq_true rfl, Nat.le_of_ble_eq_true rfl⟩) (pre_VP hKN hP hD List.perm_append_comm 0 11 rfl rfl) rfl rfl hl.1 rfl (lv_room (Nat.le_of_ble_eq_true rfl)) dL_law_207 ⟨Nat.le_of_ble_eq_true rfl, Nat.le_of_ble_eq_true rfl⟩) hS hA hP hD List.perm_append_comm (fun _ => List.perm_append_comm) (fun r2 w1 H locs hw2 hP hD hS => ?_)
  refine lv_icmp_eq (tgt := 1135) hx hb dL_law_210 (by decide) (fun _ => ?_) (fun c9 => absurd (e1.trans hw2.1.symm) c9)
  exact kk u1 w1.1 w1.2 n1 dr1 _ _ _ (hw2.2 u1 n1 dr1 hR1) hP hD hS hl
set_option maxHeartbeats 4000000 in
set_option maxRecDepth 100000 in
theorem lc_set {p : Program} {e : Env} {s : State} {m : MethodId} {below : List Frame} {meth : Method} {c : Code} {l : Launch} {b L : Nat} {xs : Nat → Int32} {D : va_G} {cy : Nat → ClassId} {h : Nat} {r : Nat → Nat} {c1 : Nat → Nat} {bb : Nat → Nat → Nat} {ra rb ia : Nat → Nat} {ib : Nat → Nat → Nat} {kd : Nat → Nat} {Q : State → Prop} (C0 : lw_At p s m meth c b L xs) (hL : L ≤ 3072) (hKN : KN D (TY cy) s) {i : Nat} (hi : i + 6 ≤ L) {u : XS} {v : Nat → Int32} {A : Nat → Nat → Int32} {n dr : Nat} (hR : RelX kd v A n dr u) {H : Heap} {locs : List Loc} {ls : Array Slot} (hP : va_P D vwCl (XW cy c1 bb ra rb ia ib kd u ++ mW cy h r v A) H) (hD : va_D (AS s) (XW cy c1 bb ra rb ia ib kd u ++ mW cy h r v A)) (hS : va_S (AS s) s.heap H locs) (hl : lv_has ls 4 [(0, .ref b), (1, .ref (c1 0)), (2, .ref h), (3, .int (nI i))]) (kk : ∀ (u : XS) (v : Nat → Int32) (A : Nat → Nat → Int32) (n dr : Nat) (H : Heap) (locs : List Loc) (ls : Array Slot), RelX kd v A n dr u → va_P D vwCl (XW cy c1 bb ra rb ia ib kd u ++ mW cy h r v A) H → va_D (AS s) (XW cy c1 bb ra rb ia ib kd u ++ mW cy h r v A) → va_S (AS s) s.heap H locs → lv_has ls 4 [(0, .ref b), (1, .ref (c1 0)), (2, .ref h), (3, .int (nI i))] → W p l e room_1 s m #[Value.ref b] below meth c H locs 600000 7302250 Q (F0 m 1135 ls [])) : W p l e room_1 s m #[Value.ref b] below meth c H locs 600000 7302250 Q (F0 m 215 ls []) := by
  obtain ⟨hx, hb, hr, hml, hown, hts, hX, hbl, hlocks, hgv⟩ := id C0
  have hts' : ∀ w ∈ wsL_law, w.before #[Value.ref b] s = true := fun w h => hts w (wsL_law_in w h)
  have CF : CallFix p m c cL_law 4 s #[Value.ref b] wsL_law RL := ⟨hx, hb, hml, hown, hts'⟩
  have hA : ∀ q : Nat, s.heap.size ≤ q → AS s q := fun _ h => h
  have hbA : ¬ AS s b := Nat.not_le.mpr hbl
  obtain ⟨fs0, hx0⟩ := XW_0 cy c1 bb ra rb ia ib kd u
  refine lv_aload_n hx hb dL_law_215 rfl (lv_at hl 1 rfl) ?_
  refine lv_aload_n hx hb dL_law_216 rfl (lv_at hl 0 rfl) ?_
  refine lv_iload_n hx hb dL_law_217 rfl (lv_at hl 3 rfl) ?_
  refine lv_iconst (v := nI 1) hx hb dL_law_218 (by decide) ?_
  refine adN (k := i + 1) hx hb rfl dL_law_219 ?_
  refine sldN hx hb hX hbl hbA hS (j := i + 1) (by omega) hL dL_law_220 ?_
  refine lv_aload_n hx hb dL_law_221 rfl (lv_at hl 0 rfl) ?_
  refine lv_iload_n hx hb dL_law_222 rfl (lv_at hl 3 rfl) ?_
  refine lv_iconst (v := nI 2) hx hb dL_law_223 (by decide) ?_
  refine adN (k := i + 2) hx hb rfl dL_law_224 ?_
  refine sldN hx hb hX hbl hbA hS (j := i + 2) (by omega) hL dL_law_225 ?_
  refine lv_aload_n hx hb dL_law_226 rfl (lv_at hl 0 rfl) ?_
  refine lv_iload_n hx hb dL_law_227 rfl (lv_at hl 3 rfl) ?_
  refine lv_iconst (v := nI 3) hx hb dL_law_228 (by decide) ?_
  refine adN (k := i + 3) hx hb rfl dL_law_229 ?_
  refine sldN hx hb hX hbl hbA hS (j := i + 3) (by omega) hL dL_law_230 ?_
  refine call_iP (wc := XW cy c1 bb ra rb ia ib kd u) (wr := mW cy h r v A) (ws' := fun u_ : XS => XW cy c1 bb ra rb ia ib kd u_ ++ mW cy h r v A) (va_runV (As := [.int (xs (i + 1)), .int (xs (i + 2)), .int (xs (i + 3))]) (rest := []) CF (x_set l D cy _ c1 bb ra rb ia ib kd u v A n dr hR (xs (i + 1)) (xs (i + 2)) (xs (i + 3))) (cwV 3 hts' gL_law_X11_set rfl rfl rfl (by decide +kernel) ⟨Nat.le_of_ble_eq_true rfl, Nat.le_of_ble_eq_true rfl⟩) (pre_VP hKN hP hD (List.Perm.refl _) 0 10 rfl hx0) rfl rfl hl.1 rfl (lv_room (Nat.le_of_ble_eq_true rfl)) dL_law_231 ⟨Nat.le_of_ble_eq_true rfl, Nat.le_of_ble_eq_true rfl⟩) hS hA hP hD (List.Perm.refl _) (fun _ => List.Perm.refl _) (fun r1 u1 H locs hw hP hD hS => ?_)
  obtain ⟨e1, n1, dr1, hR1⟩ := hw
  refine lv_aload_n hx hb dL_law_234 rfl (lv_at hl 2 rfl) ?_
  refine lv_aload_n hx hb dL_law_235 rfl (lv_at hl 0 rfl) ?_
  refine lv_iload_n hx hb dL_law_236 rfl (lv_at hl 3 rfl) ?_
  refine lv_iconst (v := nI 1) hx hb dL_law_237 (by decide) ?_
  refine adN (k := i + 1) hx hb rfl dL_law_238 ?_
  refine sldN hx hb hX hbl hbA hS (j := i + 1) (by omega) hL dL_law_239 ?_
  refine lv_aload_n hx hb dL_law_240 rfl (lv_at hl 0 rfl) ?_
  refine lv_iload_n hx hb dL_law_241 rfl (lv_at hl 3 rfl) ?_
  refine lv_iconst (v := nI 2) hx hb dL_law_242 (by decide) ?_
  refine adN (k := i + 2) hx hb rfl dL_law_243 ?_
  refine sldN hx hb hX hbl hbA hS (j := i + 2) (by omega) hL dL_law_244 ?_
  refine lv_aload_n hx hb dL_law_245 rfl (lv_at hl 0 rfl) ?_
  refine lv_iload_n hx hb dL_law_246 rfl (lv_at hl 3 rfl) ?_
  refine lv_iconst (v := nI 3) hx hb dL_law_247 (by decide) ?_
  refine adN (k := i + 3) hx hb rfl dL_law_248 ?_
  refine sldN hx hb hX hbl hbA hS (j := i + 3) (by omega) hL dL_law_249 ?_
  refine call_iP (wc := mW cy h r v A) (wr := XW cy c1 bb ra rb ia ib kd u1) (ws' := fun w_ : MS => XW cy c1 bb ra rb ia ib kd u1 ++ mW cy h r w_.1 w_.2) (va_runV (As := [.int (xs (i + 1)), .int (xs (i + 2)), .int (xs (i + 3))]) (rest := [.int r1]) CF (y_set l D cy _ h r kd u v A n dr hR (xs (i + 1)) (xs (i + 2)) (xs (i + 3))) (cwV 3 hts' gL_law_X12_set rfl rfl rfl (by decide +kernel) ⟨Nat.le_of_ble_eq_true rfl, Nat.le_of_ble_eq_true rfl⟩) (pre_VP hKN hP hD List.perm_append_comm 0 11 rfl rfl) rfl rfl hl.1 rfl (lv_room (Nat.le_of_ble_eq_true rfl)) dL_law_250 ⟨Nat.le_of_ble_eq_true rfl, Nat.le_of_ble_eq_true rfl⟩) hS hA hP hD List.perm_append_comm (fun _ => List.perm_append_comm) (fun r2 w1 H locs hw2 hP hD hS => ?_)
  refine lv_icmp_eq (tgt := 1135) hx hb dL_law_253 (by decide) (fun _ => ?_) (fun c9 => absurd (e1.trans hw2.1.symm) c9)
  exact kk u1 w1.1 w1.2 n1 dr1 _ _ _ (hw2.2 u1 n1 dr1 hR1) hP hD hS hl
set_option maxHeartbeats 4000000 in
set_option maxRecDepth 100000 in
theorem lc_copy {p : Program} {e : Env} {s : State} {m : MethodId} {below : List Frame} {meth : Method} {c : Code} {l : Launch} {b L : Nat} {xs : Nat → Int32} {D : va_G} {cy : Nat → ClassId} {h : Nat} {r : Nat → Nat} {c1 : Nat → Nat} {bb : Nat → Nat → Nat} {ra rb ia : Nat → Nat} {ib : Nat → Nat → Nat} {kd : Nat → Nat} {Q : State → Prop} (C0 : lw_At p s m meth c b L xs) (hL : L ≤ 3072) (hKN : KN D (TY cy) s) {i : Nat} (hi : i + 6 ≤ L) {u : XS} {v : Nat → Int32} {A : Nat → Nat → Int32} {n dr : Nat} (hR : RelX kd v A n dr u) {H : Heap} {locs : List Loc} {ls : Array Slot} (hP : va_P D vwCl (XW cy c1 bb ra rb ia ib kd u ++ mW cy h r v A) H) (hD : va_D (AS s) (XW cy c1 bb ra rb ia ib kd u ++ mW cy h r v A)) (hS : va_S (AS s) s.heap H locs) (hl : lv_has ls 4 [(0, .ref b), (1, .ref (c1 0)), (2, .ref h), (3, .int (nI i))]) (kk : ∀ (u : XS) (v : Nat → Int32) (A : Nat → Nat → Int32) (n dr : Nat) (H : Heap) (locs : List Loc) (ls : Array Slot), RelX kd v A n dr u → va_P D vwCl (XW cy c1 bb ra rb ia ib kd u ++ mW cy h r v A) H → va_D (AS s) (XW cy c1 bb ra rb ia ib kd u ++ mW cy h r v A) → va_S (AS s) s.heap H locs → lv_has ls 4 [(0, .ref b), (1, .ref (c1 0)), (2, .ref h), (3, .int (nI i))] → W p l e room_1 s m #[Value.ref b] below meth c H locs 600000 7302250 Q (F0 m 1135 ls [])) : W p l e room_1 s m #[Value.ref b] below meth c H locs 600000 7302250 Q (F0 m 258 ls []) := by
  obtain ⟨hx, hb, hr, hml, hown, hts, hX, hbl, hlocks, hgv⟩ := id C0
  have hts' : ∀ w ∈ wsL_law, w.before #[Value.ref b] s = true := fun w h => hts w (wsL_law_in w h)
  have CF : CallFix p m c cL_law 4 s #[Value.ref b] wsL_law RL := ⟨hx, hb, hml, hown, hts'⟩
  have hA : ∀ q : Nat, s.heap.size ≤ q → AS s q := fun _ h => h
  have hbA : ¬ AS s b := Nat.not_le.mpr hbl
  obtain ⟨fs0, hx0⟩ := XW_0 cy c1 bb ra rb ia ib kd u
  refine lv_aload_n hx hb dL_law_258 rfl (lv_at hl 1 rfl) ?_
  refine lv_aload_n hx hb dL_law_259 rfl (lv_at hl 0 rfl) ?_
  refine lv_iload_n hx hb dL_law_260 rfl (lv_at hl 3 rfl) ?_
  refine lv_iconst (v := nI 1) hx hb dL_law_261 (by decide) ?_
  refine adN (k := i + 1) hx hb rfl dL_law_262 ?_
  refine sldN hx hb hX hbl hbA hS (j := i + 1) (by omega) hL dL_law_263 ?_
  refine lv_aload_n hx hb dL_law_264 rfl (lv_at hl 0 rfl) ?_
  refine lv_iload_n hx hb dL_law_265 rfl (lv_at hl 3 rfl) ?_
  refine lv_iconst (v := nI 2) hx hb dL_law_266 (by decide) ?_
  refine adN (k := i + 2) hx hb rfl dL_law_267 ?_
  refine sldN hx hb hX hbl hbA hS (j := i + 2) (by omega) hL dL_law_268 ?_
  refine lv_aload_n hx hb dL_law_269 rfl (lv_at hl 0 rfl) ?_
  refine lv_iload_n hx hb dL_law_270 rfl (lv_at hl 3 rfl) ?_
  refine lv_iconst (v := nI 3) hx hb dL_law_271 (by decide) ?_
  refine adN (k := i + 3) hx hb rfl dL_law_272 ?_
  refine sldN hx hb hX hbl hbA hS (j := i + 3) (by omega) hL dL_law_273 ?_
  refine lv_aload_n hx hb dL_law_274 rfl (lv_at hl 0 rfl) ?_
  refine lv_iload_n hx hb dL_law_275 rfl (lv_at hl 3 rfl) ?_
  refine lv_iconst (v := nI 4) hx hb dL_law_276 (by decide) ?_
  refine adN (k := i + 4) hx hb rfl dL_law_277 ?_
  refine sldN hx hb hX hbl hbA hS (j := i + 4) (by omega) hL dL_law_278 ?_
  refine lv_aload_n hx hb dL_law_279 rfl (lv_at hl 0 rfl) ?_
  refine lv_iload_n hx hb dL_law_280 rfl (lv_at hl 3 rfl) ?_
  refine lv_iconst (v := nI 5) hx hb dL_law_281 (by decide) ?_
  refine adN (k := i + 5) hx hb rfl dL_law_282 ?_
  refine sldN hx hb hX hbl hbA hS (j := i + 5) (by omega) hL dL_law_283 ?_
  refine call_iP (wc := XW cy c1 bb ra rb ia ib kd u) (wr := mW cy h r v A) (ws' := fun u_ : XS => XW cy c1 bb ra rb ia ib kd u_ ++ mW cy h r v A) (va_runV (As := [.int (xs (i + 1)), .int (xs (i + 2)), .int (xs (i + 3)), .int (xs (i + 4)), .int (xs (i + 5))]) (rest := []) CF (x_copy l D cy _ c1 bb ra rb ia ib kd u v A n dr hR (xs (i + 1)) (xs (i + 2)) (xs (i + 3)) (xs (i + 4)) (xs (i + 5))) (cwV 5 hts' gL_law_X11_copy rfl rfl rfl (by decide +kernel) ⟨Nat.le_of_ble_eq_true rfl, Nat.le_of_ble_eq_true rfl⟩) (pre_VP hKN hP hD (List.Perm.refl _) 0 10 rfl hx0) rfl rfl hl.1 rfl (lv_room (Nat.le_of_ble_eq_true rfl)) dL_law_284 ⟨Nat.le_of_ble_eq_true rfl, Nat.le_of_ble_eq_true rfl⟩) hS hA hP hD (List.Perm.refl _) (fun _ => List.Perm.refl _) (fun r1 u1 H locs hw hP hD hS => ?_)
  obtain ⟨e1, n1, dr1, hR1⟩ := hw
  refine lv_aload_n hx hb dL_law_287 rfl (lv_at hl 2 rfl) ?_
  refine lv_aload_n hx hb dL_law_288 rfl (lv_at hl 0 rfl) ?_
  refine lv_iload_n hx hb dL_law_289 rfl (lv_at hl 3 rfl) ?_
  refine lv_iconst (v := nI 1) hx hb dL_law_290 (by decide) ?_
  refine adN (k := i + 1) hx hb rfl dL_law_291 ?_
  refine sldN hx hb hX hbl hbA hS (j := i + 1) (by omega) hL dL_law_292 ?_
  refine lv_aload_n hx hb dL_law_293 rfl (lv_at hl 0 rfl) ?_
  refine lv_iload_n hx hb dL_law_294 rfl (lv_at hl 3 rfl) ?_
  refine lv_iconst (v := nI 2) hx hb dL_law_295 (by decide) ?_
  refine adN (k := i + 2) hx hb rfl dL_law_296 ?_
  refine sldN hx hb hX hbl hbA hS (j := i + 2) (by omega) hL dL_law_297 ?_
  refine lv_aload_n hx hb dL_law_298 rfl (lv_at hl 0 rfl) ?_
  refine lv_iload_n hx hb dL_law_299 rfl (lv_at hl 3 rfl) ?_
  refine lv_iconst (v := nI 3) hx hb dL_law_300 (by decide) ?_
  refine adN (k := i + 3) hx hb rfl dL_law_301 ?_
  refine sldN hx hb hX hbl hbA hS (j := i + 3) (by omega) hL dL_law_302 ?_
  refine lv_aload_n hx hb dL_law_303 rfl (lv_at hl 0 rfl) ?_
  refine lv_iload_n hx hb dL_law_304 rfl (lv_at hl 3 rfl) ?_
  refine lv_iconst (v := nI 4) hx hb dL_law_305 (by decide) ?_
  refine adN (k := i + 4) hx hb rfl dL_law_306 ?_
  refine sldN hx hb hX hbl hbA hS (j := i + 4) (by omega) hL dL_law_307 ?_
  refine lv_aload_n hx hb dL_law_308 rfl (lv_at hl 0 rfl) ?_
  refine lv_iload_n hx hb dL_law_309 rfl (lv_at hl 3 rfl) ?_
  refine lv_iconst (v := nI 5) hx hb dL_law_310 (by decide) ?_
  refine adN (k := i + 5) hx hb rfl dL_law_311 ?_
  refine sldN hx hb hX hbl hbA hS (j := i + 5) (by omega) hL dL_law_312 ?_
  refine call_iP (wc := mW cy h r v A) (wr := XW cy c1 bb ra rb ia ib kd u1) (ws' := fun w_ : MS => XW cy c1 bb ra rb ia ib kd u1 ++ mW cy h r w_.1 w_.2) (va_runV (As := [.int (xs (i + 1)), .int (xs (i + 2)), .int (xs (i + 3)), .int (xs (i + 4)), .int (xs (i + 5))]) (rest := [.int r1]) CF (y_copy l D cy _ h r kd u v A n dr hR (xs (i + 1)) (xs (i + 2)) (xs (i + 3)) (xs (i + 4)) (xs (i + 5))) (cwV 5 hts' gL_law_X12_copy rfl rfl rfl (by decide +kernel) ⟨Nat.le_of_ble_eq_true rfl, Nat.le_of_ble_eq_true rfl⟩) (pre_VP hKN hP hD List.perm_append_comm 0 11 rfl rfl) rfl rfl hl.1 rfl (lv_room (Nat.le_of_ble_eq_true rfl)) dL_law_313 ⟨Nat.le_of_ble_eq_true rfl, Nat.le_of_ble_eq_true rfl⟩) hS hA hP hD List.perm_append_comm (fun _ => List.perm_append_comm) (fun r2 w1 H locs hw2 hP hD hS => ?_)
  refine lv_icmp_eq (tgt := 1135) hx hb dL_law_316 (by decide) (fun _ => ?_) (fun c9 => absurd (e1.trans hw2.1.symm) c9)
  exact kk u1 w1.1 w1.2 n1 dr1 _ _ _ (hw2.2 u1 n1 dr1 hR1) hP hD hS hl
set_option maxHeartbeats 4000000 in
set_option maxRecDepth 100000 in
theorem lc_drop {p : Program} {e : Env} {s : State} {m : MethodId} {below : List Frame} {meth : Method} {c : Code} {l : Launch} {b L : Nat} {xs : Nat → Int32} {D : va_G} {cy : Nat → ClassId} {h : Nat} {r : Nat → Nat} {c1 : Nat → Nat} {bb : Nat → Nat → Nat} {ra rb ia : Nat → Nat} {ib : Nat → Nat → Nat} {kd : Nat → Nat} {Q : State → Prop} (C0 : lw_At p s m meth c b L xs) (hL : L ≤ 3072) (hKN : KN D (TY cy) s) {i : Nat} (hi : i + 6 ≤ L) {u : XS} {v : Nat → Int32} {A : Nat → Nat → Int32} {n dr : Nat} (hR : RelX kd v A n dr u) {H : Heap} {locs : List Loc} {ls : Array Slot} (hP : va_P D vwCl (XW cy c1 bb ra rb ia ib kd u ++ mW cy h r v A) H) (hD : va_D (AS s) (XW cy c1 bb ra rb ia ib kd u ++ mW cy h r v A)) (hS : va_S (AS s) s.heap H locs) (hl : lv_has ls 4 [(0, .ref b), (1, .ref (c1 0)), (2, .ref h), (3, .int (nI i))]) (kk : ∀ (u : XS) (v : Nat → Int32) (A : Nat → Nat → Int32) (n dr : Nat) (H : Heap) (locs : List Loc) (ls : Array Slot), RelX kd v A n dr u → va_P D vwCl (XW cy c1 bb ra rb ia ib kd u ++ mW cy h r v A) H → va_D (AS s) (XW cy c1 bb ra rb ia ib kd u ++ mW cy h r v A) → va_S (AS s) s.heap H locs → lv_has ls 4 [(0, .ref b), (1, .ref (c1 0)), (2, .ref h), (3, .int (nI i))] → W p l e room_1 s m #[Value.ref b] below meth c H locs 600000 7302250 Q (F0 m 1135 ls [])) : W p l e room_1 s m #[Value.ref b] below meth c H locs 600000 7302250 Q (F0 m 321 ls []) := by
  obtain ⟨hx, hb, hr, hml, hown, hts, hX, hbl, hlocks, hgv⟩ := id C0
  have hts' : ∀ w ∈ wsL_law, w.before #[Value.ref b] s = true := fun w h => hts w (wsL_law_in w h)
  have CF : CallFix p m c cL_law 4 s #[Value.ref b] wsL_law RL := ⟨hx, hb, hml, hown, hts'⟩
  have hA : ∀ q : Nat, s.heap.size ≤ q → AS s q := fun _ h => h
  have hbA : ¬ AS s b := Nat.not_le.mpr hbl
  obtain ⟨fs0, hx0⟩ := XW_0 cy c1 bb ra rb ia ib kd u
  refine lv_aload_n hx hb dL_law_321 rfl (lv_at hl 1 rfl) ?_
  refine lv_aload_n hx hb dL_law_322 rfl (lv_at hl 0 rfl) ?_
  refine lv_iload_n hx hb dL_law_323 rfl (lv_at hl 3 rfl) ?_
  refine lv_iconst (v := nI 1) hx hb dL_law_324 (by decide) ?_
  refine adN (k := i + 1) hx hb rfl dL_law_325 ?_
  refine sldN hx hb hX hbl hbA hS (j := i + 1) (by omega) hL dL_law_326 ?_
  refine call_iP (wc := XW cy c1 bb ra rb ia ib kd u) (wr := mW cy h r v A) (ws' := fun u_ : XS => XW cy c1 bb ra rb ia ib kd u_ ++ mW cy h r v A) (va_runV (As := [.int (xs (i + 1))]) (rest := []) CF (x_drop l D cy _ c1 bb ra rb ia ib kd u v A n dr hR (xs (i + 1))) (cwV 1 hts' gL_law_X11_drop rfl rfl rfl (by decide +kernel) ⟨Nat.le_of_ble_eq_true rfl, Nat.le_of_ble_eq_true rfl⟩) (pre_VP hKN hP hD (List.Perm.refl _) 0 10 rfl hx0) rfl rfl hl.1 rfl (lv_room (Nat.le_of_ble_eq_true rfl)) dL_law_327 ⟨Nat.le_of_ble_eq_true rfl, Nat.le_of_ble_eq_true rfl⟩) hS hA hP hD (List.Perm.refl _) (fun _ => List.Perm.refl _) (fun r1 u1 H locs hw hP hD hS => ?_)
  obtain ⟨e1, n1, dr1, hR1⟩ := hw
  refine lv_aload_n hx hb dL_law_330 rfl (lv_at hl 2 rfl) ?_
  refine lv_aload_n hx hb dL_law_331 rfl (lv_at hl 0 rfl) ?_
  refine lv_iload_n hx hb dL_law_332 rfl (lv_at hl 3 rfl) ?_
  refine lv_iconst (v := nI 1) hx hb dL_law_333 (by decide) ?_
  refine adN (k := i + 1) hx hb rfl dL_law_334 ?_
  refine sldN hx hb hX hbl hbA hS (j := i + 1) (by omega) hL dL_law_335 ?_
  refine call_iP (wc := mW cy h r v A) (wr := XW cy c1 bb ra rb ia ib kd u1) (ws' := fun w_ : MS => XW cy c1 bb ra rb ia ib kd u1 ++ mW cy h r w_.1 w_.2) (va_runV (As := [.int (xs (i + 1))]) (rest := [.int r1]) CF (y_drop l D cy _ h r kd u v A n dr hR (xs (i + 1))) (cwV 1 hts' gL_law_X12_drop rfl rfl rfl (by decide +kernel) ⟨Nat.le_of_ble_eq_true rfl, Nat.le_of_ble_eq_true rfl⟩) (pre_VP hKN hP hD List.perm_append_comm 0 11 rfl rfl) rfl rfl hl.1 rfl (lv_room (Nat.le_of_ble_eq_true rfl)) dL_law_336 ⟨Nat.le_of_ble_eq_true rfl, Nat.le_of_ble_eq_true rfl⟩) hS hA hP hD List.perm_append_comm (fun _ => List.perm_append_comm) (fun r2 w1 H locs hw2 hP hD hS => ?_)
  refine lv_icmp_eq (tgt := 1135) hx hb dL_law_339 (by decide) (fun _ => ?_) (fun c9 => absurd (e1.trans hw2.1.symm) c9)
  exact kk u1 w1.1 w1.2 n1 dr1 _ _ _ (hw2.2 u1 n1 dr1 hR1) hP hD hS hl
set_option maxHeartbeats 4000000 in
set_option maxRecDepth 100000 in
theorem lc_feed {p : Program} {e : Env} {s : State} {m : MethodId} {below : List Frame} {meth : Method} {c : Code} {l : Launch} {b L : Nat} {xs : Nat → Int32} {D : va_G} {cy : Nat → ClassId} {h : Nat} {r : Nat → Nat} {c1 : Nat → Nat} {bb : Nat → Nat → Nat} {ra rb ia : Nat → Nat} {ib : Nat → Nat → Nat} {kd : Nat → Nat} {Q : State → Prop} (C0 : lw_At p s m meth c b L xs) (hL : L ≤ 3072) (hKN : KN D (TY cy) s) {i : Nat} (hi : i + 6 ≤ L) {u : XS} {v : Nat → Int32} {A : Nat → Nat → Int32} {n dr : Nat} (hR : RelX kd v A n dr u) {H : Heap} {locs : List Loc} {ls : Array Slot} (hP : va_P D vwCl (XW cy c1 bb ra rb ia ib kd u ++ mW cy h r v A) H) (hD : va_D (AS s) (XW cy c1 bb ra rb ia ib kd u ++ mW cy h r v A)) (hS : va_S (AS s) s.heap H locs) (hl : lv_has ls 4 [(0, .ref b), (1, .ref (c1 0)), (2, .ref h), (3, .int (nI i))]) (kk : ∀ (u : XS) (v : Nat → Int32) (A : Nat → Nat → Int32) (n dr : Nat) (H : Heap) (locs : List Loc) (ls : Array Slot), RelX kd v A n dr u → va_P D vwCl (XW cy c1 bb ra rb ia ib kd u ++ mW cy h r v A) H → va_D (AS s) (XW cy c1 bb ra rb ia ib kd u ++ mW cy h r v A) → va_S (AS s) s.heap H locs → lv_has ls 4 [(0, .ref b), (1, .ref (c1 0)), (2, .ref h), (3, .int (nI i))] → W p l e room_1 s m #[Value.ref b] below meth c H locs 600000 7302250 Q (F0 m 1135 ls [])) : W p l e room_1 s m #[Value.ref b] below meth c H locs 600000 7302250 Q (F0 m 344 ls []) := by
  obtain ⟨hx, hb, hr, hml, hown, hts, hX, hbl, hlocks, hgv⟩ := id C0
  have hts' : ∀ w ∈ wsL_law, w.before #[Value.ref b] s = true := fun w h => hts w (wsL_law_in w h)
  have CF : CallFix p m c cL_law 4 s #[Value.ref b] wsL_law RL := ⟨hx, hb, hml, hown, hts'⟩
  have hA : ∀ q : Nat, s.heap.size ≤ q → AS s q := fun _ h => h
  have hbA : ¬ AS s b := Nat.not_le.mpr hbl
  obtain ⟨fs0, hx0⟩ := XW_0 cy c1 bb ra rb ia ib kd u
  refine lv_aload_n hx hb dL_law_344 rfl (lv_at hl 1 rfl) ?_
  refine lv_aload_n hx hb dL_law_345 rfl (lv_at hl 0 rfl) ?_
  refine lv_iload_n hx hb dL_law_346 rfl (lv_at hl 3 rfl) ?_
  refine lv_iconst (v := nI 1) hx hb dL_law_347 (by decide) ?_
  refine adN (k := i + 1) hx hb rfl dL_law_348 ?_
  refine sldN hx hb hX hbl hbA hS (j := i + 1) (by omega) hL dL_law_349 ?_
  refine call_iP (wc := XW cy c1 bb ra rb ia ib kd u) (wr := mW cy h r v A) (ws' := fun u_ : XS => XW cy c1 bb ra rb ia ib kd u_ ++ mW cy h r v A) (va_runV (As := [.int (xs (i + 1))]) (rest := []) CF (x_feed l D cy _ c1 bb ra rb ia ib kd u v A n dr hR (xs (i + 1))) (cwV 1 hts' gL_law_X11_feed rfl rfl rfl (by decide +kernel) ⟨Nat.le_of_ble_eq_true rfl, Nat.le_of_ble_eq_true rfl⟩) (pre_VP hKN hP hD (List.Perm.refl _) 0 10 rfl hx0) rfl rfl hl.1 rfl (lv_room (Nat.le_of_ble_eq_true rfl)) dL_law_350 ⟨Nat.le_of_ble_eq_true rfl, Nat.le_of_ble_eq_true rfl⟩) hS hA hP hD (List.Perm.refl _) (fun _ => List.Perm.refl _) (fun r1 u1 H locs hw hP hD hS => ?_)
  obtain ⟨e1, n1, dr1, hR1⟩ := hw
  refine lv_aload_n hx hb dL_law_353 rfl (lv_at hl 2 rfl) ?_
  refine lv_aload_n hx hb dL_law_354 rfl (lv_at hl 0 rfl) ?_
  refine lv_iload_n hx hb dL_law_355 rfl (lv_at hl 3 rfl) ?_
  refine lv_iconst (v := nI 1) hx hb dL_law_356 (by decide) ?_
  refine adN (k := i + 1) hx hb rfl dL_law_357 ?_
  refine sldN hx hb hX hbl hbA hS (j := i + 1) (by omega) hL dL_law_358 ?_
  refine call_iP (wc := mW cy h r v A) (wr := XW cy c1 bb ra rb ia ib kd u1) (ws' := fun w_ : MS => XW cy c1 bb ra rb ia ib kd u1 ++ mW cy h r w_.1 w_.2) (va_runV (As := [.int (xs (i + 1))]) (rest := [.int r1]) CF (y_feed l D cy _ h r kd u v A n dr hR (xs (i + 1))) (cwV 1 hts' gL_law_X12_feed rfl rfl rfl (by decide +kernel) ⟨Nat.le_of_ble_eq_true rfl, Nat.le_of_ble_eq_true rfl⟩) (pre_VP hKN hP hD List.perm_append_comm 0 11 rfl rfl) rfl rfl hl.1 rfl (lv_room (Nat.le_of_ble_eq_true rfl)) dL_law_359 ⟨Nat.le_of_ble_eq_true rfl, Nat.le_of_ble_eq_true rfl⟩) hS hA hP hD List.perm_append_comm (fun _ => List.perm_append_comm) (fun r2 w1 H locs hw2 hP hD hS => ?_)
  refine lv_icmp_eq (tgt := 1135) hx hb dL_law_362 (by decide) (fun _ => ?_) (fun c9 => absurd (e1.trans hw2.1.symm) c9)
  exact kk u1 w1.1 w1.2 n1 dr1 _ _ _ (hw2.2 u1 n1 dr1 hR1) hP hD hS hl
set_option maxHeartbeats 4000000 in
set_option maxRecDepth 100000 in
theorem lc_catalogue {p : Program} {e : Env} {s : State} {m : MethodId} {below : List Frame} {meth : Method} {c : Code} {l : Launch} {b L : Nat} {xs : Nat → Int32} {D : va_G} {cy : Nat → ClassId} {h : Nat} {r : Nat → Nat} {c1 : Nat → Nat} {bb : Nat → Nat → Nat} {ra rb ia : Nat → Nat} {ib : Nat → Nat → Nat} {kd : Nat → Nat} {Q : State → Prop} (C0 : lw_At p s m meth c b L xs) (hL : L ≤ 3072) (hKN : KN D (TY cy) s) {i : Nat} (hi : i + 6 ≤ L) {u : XS} {v : Nat → Int32} {A : Nat → Nat → Int32} {n dr : Nat} (hR : RelX kd v A n dr u) {H : Heap} {locs : List Loc} {ls : Array Slot} (hP : va_P D vwCl (XW cy c1 bb ra rb ia ib kd u ++ mW cy h r v A) H) (hD : va_D (AS s) (XW cy c1 bb ra rb ia ib kd u ++ mW cy h r v A)) (hS : va_S (AS s) s.heap H locs) (hl : lv_has ls 4 [(0, .ref b), (1, .ref (c1 0)), (2, .ref h), (3, .int (nI i))]) (kk : ∀ (u : XS) (v : Nat → Int32) (A : Nat → Nat → Int32) (n dr : Nat) (H : Heap) (locs : List Loc) (ls : Array Slot), RelX kd v A n dr u → va_P D vwCl (XW cy c1 bb ra rb ia ib kd u ++ mW cy h r v A) H → va_D (AS s) (XW cy c1 bb ra rb ia ib kd u ++ mW cy h r v A) → va_S (AS s) s.heap H locs → lv_has ls 4 [(0, .ref b), (1, .ref (c1 0)), (2, .ref h), (3, .int (nI i))] → W p l e room_1 s m #[Value.ref b] below meth c H locs 600000 7302250 Q (F0 m 1135 ls [])) : W p l e room_1 s m #[Value.ref b] below meth c H locs 600000 7302250 Q (F0 m 367 ls []) := by
  obtain ⟨hx, hb, hr, hml, hown, hts, hX, hbl, hlocks, hgv⟩ := id C0
  have hts' : ∀ w ∈ wsL_law, w.before #[Value.ref b] s = true := fun w h => hts w (wsL_law_in w h)
  have CF : CallFix p m c cL_law 4 s #[Value.ref b] wsL_law RL := ⟨hx, hb, hml, hown, hts'⟩
  have hA : ∀ q : Nat, s.heap.size ≤ q → AS s q := fun _ h => h
  have hbA : ¬ AS s b := Nat.not_le.mpr hbl
  obtain ⟨fs0, hx0⟩ := XW_0 cy c1 bb ra rb ia ib kd u
  refine lv_aload_n hx hb dL_law_367 rfl (lv_at hl 1 rfl) ?_
  refine call_iP (wc := XW cy c1 bb ra rb ia ib kd u) (wr := mW cy h r v A) (ws' := fun u_ : XS => XW cy c1 bb ra rb ia ib kd u_ ++ mW cy h r v A) (va_runV (As := []) (rest := []) CF (x_catalogue l D cy _ c1 bb ra rb ia ib kd u v A n dr hR (u.2.2.1.2.2.2.2.2.2.2) (u.2.2.1.1) rfl rfl ) (cwV 0 hts' gL_law_X11_catalogue rfl rfl rfl (by decide +kernel) ⟨Nat.le_of_ble_eq_true rfl, Nat.le_of_ble_eq_true rfl⟩) (pre_VP hKN hP hD (List.Perm.refl _) 0 10 rfl hx0) rfl rfl hl.1 rfl (lv_room (Nat.le_of_ble_eq_true rfl)) dL_law_368 ⟨Nat.le_of_ble_eq_true rfl, Nat.le_of_ble_eq_true rfl⟩) hS hA hP hD (List.Perm.refl _) (fun _ => List.Perm.refl _) (fun r1 u1 H locs hw hP hD hS => ?_)
  obtain ⟨e1, n1, dr1, hR1⟩ := hw
  refine lv_aload_n hx hb dL_law_371 rfl (lv_at hl 2 rfl) ?_
  refine call_iP (wc := mW cy h r v A) (wr := XW cy c1 bb ra rb ia ib kd u1) (ws' := fun w_ : MS => XW cy c1 bb ra rb ia ib kd u1 ++ mW cy h r w_.1 w_.2) (va_runV (As := []) (rest := [.int r1]) CF (y_catalogue l D cy _ h r kd u v A n dr hR (u.2.2.1.2.2.2.2.2.2.2) (u.2.2.1.1) rfl rfl ) (cwV 0 hts' gL_law_X12_catalogue rfl rfl rfl (by decide +kernel) ⟨Nat.le_of_ble_eq_true rfl, Nat.le_of_ble_eq_true rfl⟩) (pre_VP hKN hP hD List.perm_append_comm 0 11 rfl rfl) rfl rfl hl.1 rfl (lv_room (Nat.le_of_ble_eq_true rfl)) dL_law_372 ⟨Nat.le_of_ble_eq_true rfl, Nat.le_of_ble_eq_true rfl⟩) hS hA hP hD List.perm_append_comm (fun _ => List.perm_append_comm) (fun r2 w1 H locs hw2 hP hD hS => ?_)
  refine lv_icmp_eq (tgt := 1135) hx hb dL_law_375 (by decide) (fun _ => ?_) (fun c9 => absurd (e1.trans hw2.1.symm) c9)
  exact kk u1 w1.1 w1.2 n1 dr1 _ _ _ (hw2.2 u1 n1 dr1 hR1) hP hD hS hl
set_option maxHeartbeats 4000000 in
set_option maxRecDepth 100000 in
theorem lc_fault {p : Program} {e : Env} {s : State} {m : MethodId} {below : List Frame} {meth : Method} {c : Code} {l : Launch} {b L : Nat} {xs : Nat → Int32} {D : va_G} {cy : Nat → ClassId} {h : Nat} {r : Nat → Nat} {c1 : Nat → Nat} {bb : Nat → Nat → Nat} {ra rb ia : Nat → Nat} {ib : Nat → Nat → Nat} {kd : Nat → Nat} {Q : State → Prop} (C0 : lw_At p s m meth c b L xs) (hL : L ≤ 3072) (hKN : KN D (TY cy) s) {i : Nat} (hi : i + 6 ≤ L) {u : XS} {v : Nat → Int32} {A : Nat → Nat → Int32} {n dr : Nat} (hR : RelX kd v A n dr u) {H : Heap} {locs : List Loc} {ls : Array Slot} (hP : va_P D vwCl (XW cy c1 bb ra rb ia ib kd u ++ mW cy h r v A) H) (hD : va_D (AS s) (XW cy c1 bb ra rb ia ib kd u ++ mW cy h r v A)) (hS : va_S (AS s) s.heap H locs) (hl : lv_has ls 4 [(0, .ref b), (1, .ref (c1 0)), (2, .ref h), (3, .int (nI i))]) (kk : ∀ (u : XS) (v : Nat → Int32) (A : Nat → Nat → Int32) (n dr : Nat) (H : Heap) (locs : List Loc) (ls : Array Slot), RelX kd v A n dr u → va_P D vwCl (XW cy c1 bb ra rb ia ib kd u ++ mW cy h r v A) H → va_D (AS s) (XW cy c1 bb ra rb ia ib kd u ++ mW cy h r v A) → va_S (AS s) s.heap H locs → lv_has ls 4 [(0, .ref b), (1, .ref (c1 0)), (2, .ref h), (3, .int (nI i))] → W p l e room_1 s m #[Value.ref b] below meth c H locs 600000 7302250 Q (F0 m 1135 ls [])) : W p l e room_1 s m #[Value.ref b] below meth c H locs 600000 7302250 Q (F0 m 380 ls []) := by
  obtain ⟨hx, hb, hr, hml, hown, hts, hX, hbl, hlocks, hgv⟩ := id C0
  have hts' : ∀ w ∈ wsL_law, w.before #[Value.ref b] s = true := fun w h => hts w (wsL_law_in w h)
  have CF : CallFix p m c cL_law 4 s #[Value.ref b] wsL_law RL := ⟨hx, hb, hml, hown, hts'⟩
  have hA : ∀ q : Nat, s.heap.size ≤ q → AS s q := fun _ h => h
  have hbA : ¬ AS s b := Nat.not_le.mpr hbl
  obtain ⟨fs0, hx0⟩ := XW_0 cy c1 bb ra rb ia ib kd u
  refine lv_aload_n hx hb dL_law_380 rfl (lv_at hl 1 rfl) ?_
  refine call_iP (wc := XW cy c1 bb ra rb ia ib kd u) (wr := mW cy h r v A) (ws' := fun u_ : XS => XW cy c1 bb ra rb ia ib kd u_ ++ mW cy h r v A) (va_runV (As := []) (rest := []) CF (x_fault l D cy _ c1 bb ra rb ia ib kd u v A n dr hR ) (cwV 0 hts' gL_law_X11_fault rfl rfl rfl (by decide +kernel) ⟨Nat.le_of_ble_eq_true rfl, Nat.le_of_ble_eq_true rfl⟩) (pre_VP hKN hP hD (List.Perm.refl _) 0 10 rfl hx0) rfl rfl hl.1 rfl (lv_room (Nat.le_of_ble_eq_true rfl)) dL_law_381 ⟨Nat.le_of_ble_eq_true rfl, Nat.le_of_ble_eq_true rfl⟩) hS hA hP hD (List.Perm.refl _) (fun _ => List.Perm.refl _) (fun r1 u1 H locs hw hP hD hS => ?_)
  obtain ⟨e1, n1, dr1, hR1⟩ := hw
  refine lv_aload_n hx hb dL_law_384 rfl (lv_at hl 2 rfl) ?_
  refine call_iP (wc := mW cy h r v A) (wr := XW cy c1 bb ra rb ia ib kd u1) (ws' := fun w_ : MS => XW cy c1 bb ra rb ia ib kd u1 ++ mW cy h r w_.1 w_.2) (va_runV (As := []) (rest := [.int r1]) CF (y_fault l D cy _ h r kd u v A n dr hR ) (cwV 0 hts' gL_law_X12_fault rfl rfl rfl (by decide +kernel) ⟨Nat.le_of_ble_eq_true rfl, Nat.le_of_ble_eq_true rfl⟩) (pre_VP hKN hP hD List.perm_append_comm 0 11 rfl rfl) rfl rfl hl.1 rfl (lv_room (Nat.le_of_ble_eq_true rfl)) dL_law_385 ⟨Nat.le_of_ble_eq_true rfl, Nat.le_of_ble_eq_true rfl⟩) hS hA hP hD List.perm_append_comm (fun _ => List.perm_append_comm) (fun r2 w1 H locs hw2 hP hD hS => ?_)
  refine lv_icmp_eq (tgt := 1135) hx hb dL_law_388 (by decide) (fun _ => ?_) (fun c9 => absurd (e1.trans hw2.1.symm) c9)
  exact kk u1 w1.1 w1.2 n1 dr1 _ _ _ (hw2.2 u1 n1 dr1 hR1) hP hD hS hl
set_option maxHeartbeats 4000000 in
set_option maxRecDepth 100000 in
theorem lc_nights {p : Program} {e : Env} {s : State} {m : MethodId} {below : List Frame} {meth : Method} {c : Code} {l : Launch} {b L : Nat} {xs : Nat → Int32} {D : va_G} {cy : Nat → ClassId} {h : Nat} {r : Nat → Nat} {c1 : Nat → Nat} {bb : Nat → Nat → Nat} {ra rb ia : Nat → Nat} {ib : Nat → Nat → Nat} {kd : Nat → Nat} {Q : State → Prop} (C0 : lw_At p s m meth c b L xs) (hL : L ≤ 3072) (hKN : KN D (TY cy) s) {i : Nat} (hi : i + 6 ≤ L) {u : XS} {v : Nat → Int32} {A : Nat → Nat → Int32} {n dr : Nat} (hR : RelX kd v A n dr u) {H : Heap} {locs : List Loc} {ls : Array Slot} (hP : va_P D vwCl (XW cy c1 bb ra rb ia ib kd u ++ mW cy h r v A) H) (hD : va_D (AS s) (XW cy c1 bb ra rb ia ib kd u ++ mW cy h r v A)) (hS : va_S (AS s) s.heap H locs) (hl : lv_has ls 4 [(0, .ref b), (1, .ref (c1 0)), (2, .ref h), (3, .int (nI i))]) (kk : ∀ (u : XS) (v : Nat → Int32) (A : Nat → Nat → Int32) (n dr : Nat) (H : Heap) (locs : List Loc) (ls : Array Slot), RelX kd v A n dr u → va_P D vwCl (XW cy c1 bb ra rb ia ib kd u ++ mW cy h r v A) H → va_D (AS s) (XW cy c1 bb ra rb ia ib kd u ++ mW cy h r v A) → va_S (AS s) s.heap H locs → lv_has ls 4 [(0, .ref b), (1, .ref (c1 0)), (2, .ref h), (3, .int (nI i))] → W p l e room_1 s m #[Value.ref b] below meth c H locs 600000 7302250 Q (F0 m 1135 ls [])) : W p l e room_1 s m #[Value.ref b] below meth c H locs 600000 7302250 Q (F0 m 393 ls []) := by
  obtain ⟨hx, hb, hr, hml, hown, hts, hX, hbl, hlocks, hgv⟩ := id C0
  have hts' : ∀ w ∈ wsL_law, w.before #[Value.ref b] s = true := fun w h => hts w (wsL_law_in w h)
  have CF : CallFix p m c cL_law 4 s #[Value.ref b] wsL_law RL := ⟨hx, hb, hml, hown, hts'⟩
  have hA : ∀ q : Nat, s.heap.size ≤ q → AS s q := fun _ h => h
  have hbA : ¬ AS s b := Nat.not_le.mpr hbl
  obtain ⟨fs0, hx0⟩ := XW_0 cy c1 bb ra rb ia ib kd u
  refine lv_aload_n hx hb dL_law_393 rfl (lv_at hl 1 rfl) ?_
  refine lv_aload_n hx hb dL_law_394 rfl (lv_at hl 0 rfl) ?_
  refine lv_iload_n hx hb dL_law_395 rfl (lv_at hl 3 rfl) ?_
  refine lv_iconst (v := nI 1) hx hb dL_law_396 (by decide) ?_
  refine adN (k := i + 1) hx hb rfl dL_law_397 ?_
  refine sldN hx hb hX hbl hbA hS (j := i + 1) (by omega) hL dL_law_398 ?_
  refine call_iP (wc := XW cy c1 bb ra rb ia ib kd u) (wr := mW cy h r v A) (ws' := fun u_ : XS => XW cy c1 bb ra rb ia ib kd u_ ++ mW cy h r v A) (va_runV (As := [.int (xs (i + 1))]) (rest := []) CF (x_nights l D cy _ c1 bb ra rb ia ib kd u v A n dr hR (u.1.1) rfl (xs (i + 1))) (cwV 1 hts' gL_law_X11_nights rfl rfl rfl (by decide +kernel) ⟨Nat.le_of_ble_eq_true rfl, Nat.le_of_ble_eq_true rfl⟩) (pre_VP hKN hP hD (List.Perm.refl _) 0 10 rfl hx0) rfl rfl hl.1 rfl (lv_room (Nat.le_of_ble_eq_true rfl)) dL_law_399 ⟨Nat.le_of_ble_eq_true rfl, Nat.le_of_ble_eq_true rfl⟩) hS hA hP hD (List.Perm.refl _) (fun _ => List.Perm.refl _) (fun r1 u1 H locs hw hP hD hS => ?_)
  obtain ⟨e1, n1, dr1, hR1⟩ := hw
  refine lv_aload_n hx hb dL_law_402 rfl (lv_at hl 2 rfl) ?_
  refine lv_aload_n hx hb dL_law_403 rfl (lv_at hl 0 rfl) ?_
  refine lv_iload_n hx hb dL_law_404 rfl (lv_at hl 3 rfl) ?_
  refine lv_iconst (v := nI 1) hx hb dL_law_405 (by decide) ?_
  refine adN (k := i + 1) hx hb rfl dL_law_406 ?_
  refine sldN hx hb hX hbl hbA hS (j := i + 1) (by omega) hL dL_law_407 ?_
  refine call_iP (wc := mW cy h r v A) (wr := XW cy c1 bb ra rb ia ib kd u1) (ws' := fun w_ : MS => XW cy c1 bb ra rb ia ib kd u1 ++ mW cy h r w_.1 w_.2) (va_runV (As := [.int (xs (i + 1))]) (rest := [.int r1]) CF (y_nights l D cy _ h r kd u v A n dr hR (u.1.1) rfl (xs (i + 1))) (cwV 1 hts' gL_law_X12_nights rfl rfl rfl (by decide +kernel) ⟨Nat.le_of_ble_eq_true rfl, Nat.le_of_ble_eq_true rfl⟩) (pre_VP hKN hP hD List.perm_append_comm 0 11 rfl rfl) rfl rfl hl.1 rfl (lv_room (Nat.le_of_ble_eq_true rfl)) dL_law_408 ⟨Nat.le_of_ble_eq_true rfl, Nat.le_of_ble_eq_true rfl⟩) hS hA hP hD List.perm_append_comm (fun _ => List.perm_append_comm) (fun r2 w1 H locs hw2 hP hD hS => ?_)
  refine lv_icmp_eq (tgt := 1135) hx hb dL_law_411 (by decide) (fun _ => ?_) (fun c9 => absurd (e1.trans hw2.1.symm) c9)
  exact kk u1 w1.1 w1.2 n1 dr1 _ _ _ (hw2.2 u1 n1 dr1 hR1) hP hD hS hl
set_option maxHeartbeats 4000000 in
set_option maxRecDepth 100000 in
theorem lc_put {p : Program} {e : Env} {s : State} {m : MethodId} {below : List Frame} {meth : Method} {c : Code} {l : Launch} {b L : Nat} {xs : Nat → Int32} {D : va_G} {cy : Nat → ClassId} {h : Nat} {r : Nat → Nat} {c1 : Nat → Nat} {bb : Nat → Nat → Nat} {ra rb ia : Nat → Nat} {ib : Nat → Nat → Nat} {kd : Nat → Nat} {Q : State → Prop} (C0 : lw_At p s m meth c b L xs) (hL : L ≤ 3072) (hKN : KN D (TY cy) s) {i : Nat} (hi : i + 6 ≤ L) {u : XS} {v : Nat → Int32} {A : Nat → Nat → Int32} {n dr : Nat} (hR : RelX kd v A n dr u) {H : Heap} {locs : List Loc} {ls : Array Slot} (hP : va_P D vwCl (XW cy c1 bb ra rb ia ib kd u ++ mW cy h r v A) H) (hD : va_D (AS s) (XW cy c1 bb ra rb ia ib kd u ++ mW cy h r v A)) (hS : va_S (AS s) s.heap H locs) (hl : lv_has ls 4 [(0, .ref b), (1, .ref (c1 0)), (2, .ref h), (3, .int (nI i))]) (kk : ∀ (u : XS) (v : Nat → Int32) (A : Nat → Nat → Int32) (n dr : Nat) (H : Heap) (locs : List Loc) (ls : Array Slot), RelX kd v A n dr u → va_P D vwCl (XW cy c1 bb ra rb ia ib kd u ++ mW cy h r v A) H → va_D (AS s) (XW cy c1 bb ra rb ia ib kd u ++ mW cy h r v A) → va_S (AS s) s.heap H locs → lv_has ls 4 [(0, .ref b), (1, .ref (c1 0)), (2, .ref h), (3, .int (nI i))] → W p l e room_1 s m #[Value.ref b] below meth c H locs 600000 7302250 Q (F0 m 1135 ls [])) : W p l e room_1 s m #[Value.ref b] below meth c H locs 600000 7302250 Q (F0 m 416 ls []) := by
  obtain ⟨hx, hb, hr, hml, hown, hts, hX, hbl, hlocks, hgv⟩ := id C0
  have hts' : ∀ w ∈ wsL_law, w.before #[Value.ref b] s = true := fun w h => hts w (wsL_law_in w h)
  have CF : CallFix p m c cL_law 4 s #[Value.ref b] wsL_law RL := ⟨hx, hb, hml, hown, hts'⟩
  have hA : ∀ q : Nat, s.heap.size ≤ q → AS s q := fun _ h => h
  have hbA : ¬ AS s b := Nat.not_le.mpr hbl
  obtain ⟨fs0, hx0⟩ := XW_0 cy c1 bb ra rb ia ib kd u
  refine lv_aload_n hx hb dL_law_416 rfl (lv_at hl 1 rfl) ?_
  refine lv_aload_n hx hb dL_law_417 rfl (lv_at hl 0 rfl) ?_
  refine lv_iload_n hx hb dL_law_418 rfl (lv_at hl 3 rfl) ?_
  refine lv_iconst (v := nI 1) hx hb dL_law_419 (by decide) ?_
  refine adN (k := i + 1) hx hb rfl dL_law_420 ?_
  refine sldN hx hb hX hbl hbA hS (j := i + 1) (by omega) hL dL_law_421 ?_
  refine lv_aload_n hx hb dL_law_422 rfl (lv_at hl 0 rfl) ?_
  refine lv_iload_n hx hb dL_law_423 rfl (lv_at hl 3 rfl) ?_
  refine lv_iconst (v := nI 2) hx hb dL_law_424 (by decide) ?_
  refine adN (k := i + 2) hx hb rfl dL_law_425 ?_
  refine sldN hx hb hX hbl hbA hS (j := i + 2) (by omega) hL dL_law_426 ?_
  refine call_iP (wc := XW cy c1 bb ra rb ia ib kd u) (wr := mW cy h r v A) (ws' := fun u_ : XS => XW cy c1 bb ra rb ia ib kd u_ ++ mW cy h r v A) (va_runV (As := [.int (xs (i + 1)), .int (xs (i + 2))]) (rest := []) CF (x_put l D cy _ c1 bb ra rb ia ib kd u v A n dr hR (u.1.1) rfl (xs (i + 1)) (xs (i + 2))) (cwV 2 hts' gL_law_X11_put rfl rfl rfl (by decide +kernel) ⟨Nat.le_of_ble_eq_true rfl, Nat.le_of_ble_eq_true rfl⟩) (pre_VP hKN hP hD (List.Perm.refl _) 0 10 rfl hx0) rfl rfl hl.1 rfl (lv_room (Nat.le_of_ble_eq_true rfl)) dL_law_427 ⟨Nat.le_of_ble_eq_true rfl, Nat.le_of_ble_eq_true rfl⟩) hS hA hP hD (List.Perm.refl _) (fun _ => List.Perm.refl _) (fun r1 u1 H locs hw hP hD hS => ?_)
  obtain ⟨e1, n1, dr1, hR1⟩ := hw
  refine lv_aload_n hx hb dL_law_430 rfl (lv_at hl 2 rfl) ?_
  refine lv_aload_n hx hb dL_law_431 rfl (lv_at hl 0 rfl) ?_
  refine lv_iload_n hx hb dL_law_432 rfl (lv_at hl 3 rfl) ?_
  refine lv_iconst (v := nI 1) hx hb dL_law_433 (by decide) ?_
  refine adN (k := i + 1) hx hb rfl dL_law_434 ?_
  refine sldN hx hb hX hbl hbA hS (j := i + 1) (by omega) hL dL_law_435 ?_
  refine lv_aload_n hx hb dL_law_436 rfl (lv_at hl 0 rfl) ?_
  refine lv_iload_n hx hb dL_law_437 rfl (lv_at hl 3 rfl) ?_
  refine lv_iconst (v := nI 2) hx hb dL_law_438 (by decide) ?_
  refine adN (k := i + 2) hx hb rfl dL_law_439 ?_
  refine sldN hx hb hX hbl hbA hS (j := i + 2) (by omega) hL dL_law_440 ?_
  refine call_iP (wc := mW cy h r v A) (wr := XW cy c1 bb ra rb ia ib kd u1) (ws' := fun w_ : MS => XW cy c1 bb ra rb ia ib kd u1 ++ mW cy h r w_.1 w_.2) (va_runV (As := [.int (xs (i + 1)), .int (xs (i + 2))]) (rest := [.int r1]) CF (y_put l D cy _ h r kd u v A n dr hR (u.1.1) rfl (xs (i + 1)) (xs (i + 2))) (cwV 2 hts' gL_law_X12_put rfl rfl rfl (by decide +kernel) ⟨Nat.le_of_ble_eq_true rfl, Nat.le_of_ble_eq_true rfl⟩) (pre_VP hKN hP hD List.perm_append_comm 0 11 rfl rfl) rfl rfl hl.1 rfl (lv_room (Nat.le_of_ble_eq_true rfl)) dL_law_441 ⟨Nat.le_of_ble_eq_true rfl, Nat.le_of_ble_eq_true rfl⟩) hS hA hP hD List.perm_append_comm (fun _ => List.perm_append_comm) (fun r2 w1 H locs hw2 hP hD hS => ?_)
  refine lv_icmp_eq (tgt := 1135) hx hb dL_law_444 (by decide) (fun _ => ?_) (fun c9 => absurd (e1.trans hw2.1.symm) c9)
  exact kk u1 w1.1 w1.2 n1 dr1 _ _ _ (hw2.2 u1 n1 dr1 hR1) hP hD hS hl
set_option maxHeartbeats 4000000 in
set_option maxRecDepth 100000 in
theorem lc_turn {p : Program} {e : Env} {s : State} {m : MethodId} {below : List Frame} {meth : Method} {c : Code} {l : Launch} {b L : Nat} {xs : Nat → Int32} {D : va_G} {cy : Nat → ClassId} {h : Nat} {r : Nat → Nat} {c1 : Nat → Nat} {bb : Nat → Nat → Nat} {ra rb ia : Nat → Nat} {ib : Nat → Nat → Nat} {kd : Nat → Nat} {Q : State → Prop} (C0 : lw_At p s m meth c b L xs) (hL : L ≤ 3072) (hKN : KN D (TY cy) s) {i : Nat} (hi : i + 6 ≤ L) {u : XS} {v : Nat → Int32} {A : Nat → Nat → Int32} {n dr : Nat} (hR : RelX kd v A n dr u) {H : Heap} {locs : List Loc} {ls : Array Slot} (hP : va_P D vwCl (XW cy c1 bb ra rb ia ib kd u ++ mW cy h r v A) H) (hD : va_D (AS s) (XW cy c1 bb ra rb ia ib kd u ++ mW cy h r v A)) (hS : va_S (AS s) s.heap H locs) (hl : lv_has ls 4 [(0, .ref b), (1, .ref (c1 0)), (2, .ref h), (3, .int (nI i))]) (kk : ∀ (u : XS) (v : Nat → Int32) (A : Nat → Nat → Int32) (n dr : Nat) (H : Heap) (locs : List Loc) (ls : Array Slot), RelX kd v A n dr u → va_P D vwCl (XW cy c1 bb ra rb ia ib kd u ++ mW cy h r v A) H → va_D (AS s) (XW cy c1 bb ra rb ia ib kd u ++ mW cy h r v A) → va_S (AS s) s.heap H locs → lv_has ls 4 [(0, .ref b), (1, .ref (c1 0)), (2, .ref h), (3, .int (nI i))] → W p l e room_1 s m #[Value.ref b] below meth c H locs 600000 7302250 Q (F0 m 1135 ls [])) : W p l e room_1 s m #[Value.ref b] below meth c H locs 600000 7302250 Q (F0 m 449 ls []) := by
  obtain ⟨hx, hb, hr, hml, hown, hts, hX, hbl, hlocks, hgv⟩ := id C0
  have hts' : ∀ w ∈ wsL_law, w.before #[Value.ref b] s = true := fun w h => hts w (wsL_law_in w h)
  have CF : CallFix p m c cL_law 4 s #[Value.ref b] wsL_law RL := ⟨hx, hb, hml, hown, hts'⟩
  have hA : ∀ q : Nat, s.heap.size ≤ q → AS s q := fun _ h => h
  have hbA : ¬ AS s b := Nat.not_le.mpr hbl
  obtain ⟨fs0, hx0⟩ := XW_0 cy c1 bb ra rb ia ib kd u
  refine lv_aload_n hx hb dL_law_449 rfl (lv_at hl 1 rfl) ?_
  refine lv_aload_n hx hb dL_law_450 rfl (lv_at hl 0 rfl) ?_
  refine lv_iload_n hx hb dL_law_451 rfl (lv_at hl 3 rfl) ?_
  refine lv_iconst (v := nI 1) hx hb dL_law_452 (by decide) ?_
  refine adN (k := i + 1) hx hb rfl dL_law_453 ?_
  refine sldN hx hb hX hbl hbA hS (j := i + 1) (by omega) hL dL_law_454 ?_
  refine call_iP (wc := XW cy c1 bb ra rb ia ib kd u) (wr := mW cy h r v A) (ws' := fun u_ : XS => XW cy c1 bb ra rb ia ib kd u_ ++ mW cy h r v A) (va_runV (As := [.int (xs (i + 1))]) (rest := []) CF (x_turn l D cy _ c1 bb ra rb ia ib kd u v A n dr hR (u.1.1) rfl (xs (i + 1))) (cwV 1 hts' gL_law_X11_turn rfl rfl rfl (by decide +kernel) ⟨Nat.le_of_ble_eq_true rfl, Nat.le_of_ble_eq_true rfl⟩) (pre_VP hKN hP hD (List.Perm.refl _) 0 10 rfl hx0) rfl rfl hl.1 rfl (lv_room (Nat.le_of_ble_eq_true rfl)) dL_law_455 ⟨Nat.le_of_ble_eq_true rfl, Nat.le_of_ble_eq_true rfl⟩) hS hA hP hD (List.Perm.refl _) (fun _ => List.Perm.refl _) (fun r1 u1 H locs hw hP hD hS => ?_)
  obtain ⟨e1, n1, dr1, hR1⟩ := hw
  refine lv_aload_n hx hb dL_law_458 rfl (lv_at hl 2 rfl) ?_
  refine lv_aload_n hx hb dL_law_459 rfl (lv_at hl 0 rfl) ?_
  refine lv_iload_n hx hb dL_law_460 rfl (lv_at hl 3 rfl) ?_
  refine lv_iconst (v := nI 1) hx hb dL_law_461 (by decide) ?_
  refine adN (k := i + 1) hx hb rfl dL_law_462 ?_
  refine sldN hx hb hX hbl hbA hS (j := i + 1) (by omega) hL dL_law_463 ?_
  refine call_iP (wc := mW cy h r v A) (wr := XW cy c1 bb ra rb ia ib kd u1) (ws' := fun w_ : MS => XW cy c1 bb ra rb ia ib kd u1 ++ mW cy h r w_.1 w_.2) (va_runV (As := [.int (xs (i + 1))]) (rest := [.int r1]) CF (y_turn l D cy _ h r kd u v A n dr hR (u.1.1) rfl (xs (i + 1))) (cwV 1 hts' gL_law_X12_turn rfl rfl rfl (by decide +kernel) ⟨Nat.le_of_ble_eq_true rfl, Nat.le_of_ble_eq_true rfl⟩) (pre_VP hKN hP hD List.perm_append_comm 0 11 rfl rfl) rfl rfl hl.1 rfl (lv_room (Nat.le_of_ble_eq_true rfl)) dL_law_464 ⟨Nat.le_of_ble_eq_true rfl, Nat.le_of_ble_eq_true rfl⟩) hS hA hP hD List.perm_append_comm (fun _ => List.perm_append_comm) (fun r2 w1 H locs hw2 hP hD hS => ?_)
  refine lv_icmp_eq (tgt := 1135) hx hb dL_law_467 (by decide) (fun _ => ?_) (fun c9 => absurd (e1.trans hw2.1.symm) c9)
  exact kk u1 w1.1 w1.2 n1 dr1 _ _ _ (hw2.2 u1 n1 dr1 hR1) hP hD hS hl
set_option maxHeartbeats 4000000 in
set_option maxRecDepth 100000 in
theorem lc_like {p : Program} {e : Env} {s : State} {m : MethodId} {below : List Frame} {meth : Method} {c : Code} {l : Launch} {b L : Nat} {xs : Nat → Int32} {D : va_G} {cy : Nat → ClassId} {h : Nat} {r : Nat → Nat} {c1 : Nat → Nat} {bb : Nat → Nat → Nat} {ra rb ia : Nat → Nat} {ib : Nat → Nat → Nat} {kd : Nat → Nat} {Q : State → Prop} (C0 : lw_At p s m meth c b L xs) (hL : L ≤ 3072) (hKN : KN D (TY cy) s) {i : Nat} (hi : i + 6 ≤ L) {u : XS} {v : Nat → Int32} {A : Nat → Nat → Int32} {n dr : Nat} (hR : RelX kd v A n dr u) {H : Heap} {locs : List Loc} {ls : Array Slot} (hP : va_P D vwCl (XW cy c1 bb ra rb ia ib kd u ++ mW cy h r v A) H) (hD : va_D (AS s) (XW cy c1 bb ra rb ia ib kd u ++ mW cy h r v A)) (hS : va_S (AS s) s.heap H locs) (hl : lv_has ls 4 [(0, .ref b), (1, .ref (c1 0)), (2, .ref h), (3, .int (nI i))]) (kk : ∀ (u : XS) (v : Nat → Int32) (A : Nat → Nat → Int32) (n dr : Nat) (H : Heap) (locs : List Loc) (ls : Array Slot), RelX kd v A n dr u → va_P D vwCl (XW cy c1 bb ra rb ia ib kd u ++ mW cy h r v A) H → va_D (AS s) (XW cy c1 bb ra rb ia ib kd u ++ mW cy h r v A) → va_S (AS s) s.heap H locs → lv_has ls 4 [(0, .ref b), (1, .ref (c1 0)), (2, .ref h), (3, .int (nI i))] → W p l e room_1 s m #[Value.ref b] below meth c H locs 600000 7302250 Q (F0 m 1135 ls [])) : W p l e room_1 s m #[Value.ref b] below meth c H locs 600000 7302250 Q (F0 m 472 ls []) := by
  obtain ⟨hx, hb, hr, hml, hown, hts, hX, hbl, hlocks, hgv⟩ := id C0
  have hts' : ∀ w ∈ wsL_law, w.before #[Value.ref b] s = true := fun w h => hts w (wsL_law_in w h)
  have CF : CallFix p m c cL_law 4 s #[Value.ref b] wsL_law RL := ⟨hx, hb, hml, hown, hts'⟩
  have hA : ∀ q : Nat, s.heap.size ≤ q → AS s q := fun _ h => h
  have hbA : ¬ AS s b := Nat.not_le.mpr hbl
  obtain ⟨fs0, hx0⟩ := XW_0 cy c1 bb ra rb ia ib kd u
  refine lv_aload_n hx hb dL_law_472 rfl (lv_at hl 1 rfl) ?_
  refine lv_aload_n hx hb dL_law_473 rfl (lv_at hl 0 rfl) ?_
  refine lv_iload_n hx hb dL_law_474 rfl (lv_at hl 3 rfl) ?_
  refine lv_iconst (v := nI 1) hx hb dL_law_475 (by decide) ?_
  refine adN (k := i + 1) hx hb rfl dL_law_476 ?_
  refine sldN hx hb hX hbl hbA hS (j := i + 1) (by omega) hL dL_law_477 ?_
  refine lv_aload_n hx hb dL_law_478 rfl (lv_at hl 0 rfl) ?_
  refine lv_iload_n hx hb dL_law_479 rfl (lv_at hl 3 rfl) ?_
  refine lv_iconst (v := nI 2) hx hb dL_law_480 (by decide) ?_
  refine adN (k := i + 2) hx hb rfl dL_law_481 ?_
  refine sldN hx hb hX hbl hbA hS (j := i + 2) (by omega) hL dL_law_482 ?_
  refine call_iP (wc := XW cy c1 bb ra rb ia ib kd u) (wr := mW cy h r v A) (ws' := fun u_ : XS => XW cy c1 bb ra rb ia ib kd u_ ++ mW cy h r v A) (va_runV (As := [.int (xs (i + 1)), .int (xs (i + 2))]) (rest := []) CF (x_like l D cy _ c1 bb ra rb ia ib kd u v A n dr hR (u.1.1) rfl (xs (i + 1)) (xs (i + 2))) (cwV 2 hts' gL_law_X11_like rfl rfl rfl (by decide +kernel) ⟨Nat.le_of_ble_eq_true rfl, Nat.le_of_ble_eq_true rfl⟩) (pre_VP hKN hP hD (List.Perm.refl _) 0 10 rfl hx0) rfl rfl hl.1 rfl (lv_room (Nat.le_of_ble_eq_true rfl)) dL_law_483 ⟨Nat.le_of_ble_eq_true rfl, Nat.le_of_ble_eq_true rfl⟩) hS hA hP hD (List.Perm.refl _) (fun _ => List.Perm.refl _) (fun r1 u1 H locs hw hP hD hS => ?_)
  obtain ⟨e1, n1, dr1, hR1⟩ := hw
  refine lv_aload_n hx hb dL_law_486 rfl (lv_at hl 2 rfl) ?_
  refine lv_aload_n hx hb dL_law_487 rfl (lv_at hl 0 rfl) ?_
  refine lv_iload_n hx hb dL_law_488 rfl (lv_at hl 3 rfl) ?_
  refine lv_iconst (v := nI 1) hx hb dL_law_489 (by decide) ?_
  refine adN (k := i + 1) hx hb rfl dL_law_490 ?_
  refine sldN hx hb hX hbl hbA hS (j := i + 1) (by omega) hL dL_law_491 ?_
  refine lv_aload_n hx hb dL_law_492 rfl (lv_at hl 0 rfl) ?_
  refine lv_iload_n hx hb dL_law_493 rfl (lv_at hl 3 rfl) ?_
  refine lv_iconst (v := nI 2) hx hb dL_law_494 (by decide) ?_
  refine adN (k := i + 2) hx hb rfl dL_law_495 ?_
  refine sldN hx hb hX hbl hbA hS (j := i + 2) (by omega) hL dL_law_496 ?_
  refine call_iP (wc := mW cy h r v A) (wr := XW cy c1 bb ra rb ia ib kd u1) (ws' := fun w_ : MS => XW cy c1 bb ra rb ia ib kd u1 ++ mW cy h r w_.1 w_.2) (va_runV (As := [.int (xs (i + 1)), .int (xs (i + 2))]) (rest := [.int r1]) CF (y_like l D cy _ h r kd u v A n dr hR (u.1.1) rfl (xs (i + 1)) (xs (i + 2))) (cwV 2 hts' gL_law_X12_like rfl rfl rfl (by decide +kernel) ⟨Nat.le_of_ble_eq_true rfl, Nat.le_of_ble_eq_true rfl⟩) (pre_VP hKN hP hD List.perm_append_comm 0 11 rfl rfl) rfl rfl hl.1 rfl (lv_room (Nat.le_of_ble_eq_true rfl)) dL_law_497 ⟨Nat.le_of_ble_eq_true rfl, Nat.le_of_ble_eq_true rfl⟩) hS hA hP hD List.perm_append_comm (fun _ => List.perm_append_comm) (fun r2 w1 H locs hw2 hP hD hS => ?_)
  refine lv_icmp_eq (tgt := 1135) hx hb dL_law_500 (by decide) (fun _ => ?_) (fun c9 => absurd (e1.trans hw2.1.symm) c9)
  exact kk u1 w1.1 w1.2 n1 dr1 _ _ _ (hw2.2 u1 n1 dr1 hR1) hP hD hS hl
set_option maxHeartbeats 4000000 in
set_option maxRecDepth 100000 in
theorem lc_undo {p : Program} {e : Env} {s : State} {m : MethodId} {below : List Frame} {meth : Method} {c : Code} {l : Launch} {b L : Nat} {xs : Nat → Int32} {D : va_G} {cy : Nat → ClassId} {h : Nat} {r : Nat → Nat} {c1 : Nat → Nat} {bb : Nat → Nat → Nat} {ra rb ia : Nat → Nat} {ib : Nat → Nat → Nat} {kd : Nat → Nat} {Q : State → Prop} (C0 : lw_At p s m meth c b L xs) (hL : L ≤ 3072) (hKN : KN D (TY cy) s) {i : Nat} (hi : i + 6 ≤ L) {u : XS} {v : Nat → Int32} {A : Nat → Nat → Int32} {n dr : Nat} (hR : RelX kd v A n dr u) {H : Heap} {locs : List Loc} {ls : Array Slot} (hP : va_P D vwCl (XW cy c1 bb ra rb ia ib kd u ++ mW cy h r v A) H) (hD : va_D (AS s) (XW cy c1 bb ra rb ia ib kd u ++ mW cy h r v A)) (hS : va_S (AS s) s.heap H locs) (hl : lv_has ls 4 [(0, .ref b), (1, .ref (c1 0)), (2, .ref h), (3, .int (nI i))]) (kk : ∀ (u : XS) (v : Nat → Int32) (A : Nat → Nat → Int32) (n dr : Nat) (H : Heap) (locs : List Loc) (ls : Array Slot), RelX kd v A n dr u → va_P D vwCl (XW cy c1 bb ra rb ia ib kd u ++ mW cy h r v A) H → va_D (AS s) (XW cy c1 bb ra rb ia ib kd u ++ mW cy h r v A) → va_S (AS s) s.heap H locs → lv_has ls 4 [(0, .ref b), (1, .ref (c1 0)), (2, .ref h), (3, .int (nI i))] → W p l e room_1 s m #[Value.ref b] below meth c H locs 600000 7302250 Q (F0 m 1135 ls [])) : W p l e room_1 s m #[Value.ref b] below meth c H locs 600000 7302250 Q (F0 m 505 ls []) := by
  obtain ⟨hx, hb, hr, hml, hown, hts, hX, hbl, hlocks, hgv⟩ := id C0
  have hts' : ∀ w ∈ wsL_law, w.before #[Value.ref b] s = true := fun w h => hts w (wsL_law_in w h)
  have CF : CallFix p m c cL_law 4 s #[Value.ref b] wsL_law RL := ⟨hx, hb, hml, hown, hts'⟩
  have hA : ∀ q : Nat, s.heap.size ≤ q → AS s q := fun _ h => h
  have hbA : ¬ AS s b := Nat.not_le.mpr hbl
  obtain ⟨fs0, hx0⟩ := XW_0 cy c1 bb ra rb ia ib kd u
  refine lv_aload_n hx hb dL_law_505 rfl (lv_at hl 1 rfl) ?_
  refine call_iP (wc := XW cy c1 bb ra rb ia ib kd u) (wr := mW cy h r v A) (ws' := fun u_ : XS => XW cy c1 bb ra rb ia ib kd u_ ++ mW cy h r v A) (va_runV (As := []) (rest := []) CF (x_undo l D cy _ c1 bb ra rb ia ib kd u v A n dr hR (u.1.1) rfl ) (cwV 0 hts' gL_law_X11_undo rfl rfl rfl (by decide +kernel) ⟨Nat.le_of_ble_eq_true rfl, Nat.le_of_ble_eq_true rfl⟩) (pre_VP hKN hP hD (List.Perm.refl _) 0 10 rfl hx0) rfl rfl hl.1 rfl (lv_room (Nat.le_of_ble_eq_true rfl)) dL_law_506 ⟨Nat.le_of_ble_eq_true rfl, Nat.le_of_ble_eq_true rfl⟩) hS hA hP hD (List.Perm.refl _) (fun _ => List.Perm.refl _) (fun r1 u1 H locs hw hP hD hS => ?_)
  obtain ⟨e1, n1, dr1, hR1⟩ := hw
  refine lv_aload_n hx hb dL_law_509 rfl (lv_at hl 2 rfl) ?_
  refine call_iP (wc := mW cy h r v A) (wr := XW cy c1 bb ra rb ia ib kd u1) (ws' := fun w_ : MS => XW cy c1 bb ra rb ia ib kd u1 ++ mW cy h r w_.1 w_.2) (va_runV (As := []) (rest := [.int r1]) CF (y_undo l D cy _ h r kd u v A n dr hR (u.1.1) rfl ) (cwV 0 hts' gL_law_X12_undo rfl rfl rfl (by decide +kernel) ⟨Nat.le_of_ble_eq_true rfl, Nat.le_of_ble_eq_true rfl⟩) (pre_VP hKN hP hD List.perm_append_comm 0 11 rfl rfl) rfl rfl hl.1 rfl (lv_room (Nat.le_of_ble_eq_true rfl)) dL_law_510 ⟨Nat.le_of_ble_eq_true rfl, Nat.le_of_ble_eq_true rfl⟩) hS hA hP hD List.perm_append_comm (fun _ => List.perm_append_comm) (fun r2 w1 H locs hw2 hP hD hS => ?_)
  refine lv_icmp_eq (tgt := 1135) hx hb dL_law_513 (by decide) (fun _ => ?_) (fun c9 => absurd (e1.trans hw2.1.symm) c9)
  exact kk u1 w1.1 w1.2 n1 dr1 _ _ _ (hw2.2 u1 n1 dr1 hR1) hP hD hS hl
set_option maxHeartbeats 4000000 in
set_option maxRecDepth 100000 in
theorem lc_card {p : Program} {e : Env} {s : State} {m : MethodId} {below : List Frame} {meth : Method} {c : Code} {l : Launch} {b L : Nat} {xs : Nat → Int32} {D : va_G} {cy : Nat → ClassId} {h : Nat} {r : Nat → Nat} {c1 : Nat → Nat} {bb : Nat → Nat → Nat} {ra rb ia : Nat → Nat} {ib : Nat → Nat → Nat} {kd : Nat → Nat} {Q : State → Prop} (C0 : lw_At p s m meth c b L xs) (hL : L ≤ 3072) (hKN : KN D (TY cy) s) {i : Nat} (hi : i + 6 ≤ L) {u : XS} {v : Nat → Int32} {A : Nat → Nat → Int32} {n dr : Nat} (hR : RelX kd v A n dr u) {H : Heap} {locs : List Loc} {ls : Array Slot} (hP : va_P D vwCl (XW cy c1 bb ra rb ia ib kd u ++ mW cy h r v A) H) (hD : va_D (AS s) (XW cy c1 bb ra rb ia ib kd u ++ mW cy h r v A)) (hS : va_S (AS s) s.heap H locs) (hl : lv_has ls 4 [(0, .ref b), (1, .ref (c1 0)), (2, .ref h), (3, .int (nI i))]) (kk : ∀ (u : XS) (v : Nat → Int32) (A : Nat → Nat → Int32) (n dr : Nat) (H : Heap) (locs : List Loc) (ls : Array Slot), RelX kd v A n dr u → va_P D vwCl (XW cy c1 bb ra rb ia ib kd u ++ mW cy h r v A) H → va_D (AS s) (XW cy c1 bb ra rb ia ib kd u ++ mW cy h r v A) → va_S (AS s) s.heap H locs → lv_has ls 4 [(0, .ref b), (1, .ref (c1 0)), (2, .ref h), (3, .int (nI i))] → W p l e room_1 s m #[Value.ref b] below meth c H locs 600000 7302250 Q (F0 m 1135 ls [])) : W p l e room_1 s m #[Value.ref b] below meth c H locs 600000 7302250 Q (F0 m 518 ls []) := by
  obtain ⟨hx, hb, hr, hml, hown, hts, hX, hbl, hlocks, hgv⟩ := id C0
  have hts' : ∀ w ∈ wsL_law, w.before #[Value.ref b] s = true := fun w h => hts w (wsL_law_in w h)
  have CF : CallFix p m c cL_law 4 s #[Value.ref b] wsL_law RL := ⟨hx, hb, hml, hown, hts'⟩
  have hA : ∀ q : Nat, s.heap.size ≤ q → AS s q := fun _ h => h
  have hbA : ¬ AS s b := Nat.not_le.mpr hbl
  obtain ⟨fs0, hx0⟩ := XW_0 cy c1 bb ra rb ia ib kd u
  refine lv_aload_n hx hb dL_law_518 rfl (lv_at hl 1 rfl) ?_
  refine lv_aload_n hx hb dL_law_519 rfl (lv_at hl 0 rfl) ?_
  refine lv_iload_n hx hb dL_law_520 rfl (lv_at hl 3 rfl) ?_
  refine lv_iconst (v := nI 1) hx hb dL_law_521 (by decide) ?_
  refine adN (k := i + 1) hx hb rfl dL_law_522 ?_
  refine sldN hx hb hX hbl hbA hS (j := i + 1) (by omega) hL dL_law_523 ?_
  refine lv_aload_n hx hb dL_law_524 rfl (lv_at hl 0 rfl) ?_
  refine lv_iload_n hx hb dL_law_525 rfl (lv_at hl 3 rfl) ?_
  refine lv_iconst (v := nI 2) hx hb dL_law_526 (by decide) ?_
  refine adN (k := i + 2) hx hb rfl dL_law_527 ?_
  refine sldN hx hb hX hbl hbA hS (j := i + 2) (by omega) hL dL_law_528 ?_
  refine call_iP (wc := XW cy c1 bb ra rb ia ib kd u) (wr := mW cy h r v A) (ws' := fun u_ : XS => XW cy c1 bb ra rb ia ib kd u_ ++ mW cy h r v A) (va_runV (As := [.int (xs (i + 1)), .int (xs (i + 2))]) (rest := []) CF (x_card l D cy _ c1 bb ra rb ia ib kd u v A n dr hR (xs (i + 1)) (xs (i + 2))) (cwV 2 hts' gL_law_X11_card rfl rfl rfl (by decide +kernel) ⟨Nat.le_of_ble_eq_true rfl, Nat.le_of_ble_eq_true rfl⟩) (pre_VP hKN hP hD (List.Perm.refl _) 0 10 rfl hx0) rfl rfl hl.1 rfl (lv_room (Nat.le_of_ble_eq_true rfl)) dL_law_529 ⟨Nat.le_of_ble_eq_true rfl, Nat.le_of_ble_eq_true rfl⟩) hS hA hP hD (List.Perm.refl _) (fun _ => List.Perm.refl _) (fun r1 u1 H locs hw hP hD hS => ?_)
  obtain ⟨e1, n1, dr1, hR1⟩ := hw
  refine lv_aload_n hx hb dL_law_532 rfl (lv_at hl 2 rfl) ?_
  refine lv_aload_n hx hb dL_law_533 rfl (lv_at hl 0 rfl) ?_
  refine lv_iload_n hx hb dL_law_534 rfl (lv_at hl 3 rfl) ?_
  refine lv_iconst (v := nI 1) hx hb dL_law_535 (by decide) ?_
  refine adN (k := i + 1) hx hb rfl dL_law_536 ?_
  refine sldN hx hb hX hbl hbA hS (j := i + 1) (by omega) hL dL_law_537 ?_
  refine lv_aload_n hx hb dL_law_538 rfl (lv_at hl 0 rfl) ?_
  refine lv_iload_n hx hb dL_law_539 rfl (lv_at hl 3 rfl) ?_
  refine lv_iconst (v := nI 2) hx hb dL_law_540 (by decide) ?_
  refine adN (k := i + 2) hx hb rfl dL_law_541 ?_
  refine sldN hx hb hX hbl hbA hS (j := i + 2) (by omega) hL dL_law_542 ?_
  refine call_iP (wc := mW cy h r v A) (wr := XW cy c1 bb ra rb ia ib kd u1) (ws' := fun w_ : MS => XW cy c1 bb ra rb ia ib kd u1 ++ mW cy h r w_.1 w_.2) (va_runV (As := [.int (xs (i + 1)), .int (xs (i + 2))]) (rest := [.int r1]) CF (y_card l D cy _ h r kd u v A n dr hR (xs (i + 1)) (xs (i + 2))) (cwV 2 hts' gL_law_X12_card rfl rfl rfl (by decide +kernel) ⟨Nat.le_of_ble_eq_true rfl, Nat.le_of_ble_eq_true rfl⟩) (pre_VP hKN hP hD List.perm_append_comm 0 11 rfl rfl) rfl rfl hl.1 rfl (lv_room (Nat.le_of_ble_eq_true rfl)) dL_law_543 ⟨Nat.le_of_ble_eq_true rfl, Nat.le_of_ble_eq_true rfl⟩) hS hA hP hD List.perm_append_comm (fun _ => List.perm_append_comm) (fun r2 w1 H locs hw2 hP hD hS => ?_)
  refine lv_icmp_eq (tgt := 1135) hx hb dL_law_546 (by decide) (fun _ => ?_) (fun c9 => absurd (e1.trans hw2.1.symm) c9)
  exact kk u1 w1.1 w1.2 n1 dr1 _ _ _ (hw2.2 u1 n1 dr1 hR1) hP hD hS hl
set_option maxHeartbeats 4000000 in
set_option maxRecDepth 100000 in
theorem lc_drawer {p : Program} {e : Env} {s : State} {m : MethodId} {below : List Frame} {meth : Method} {c : Code} {l : Launch} {b L : Nat} {xs : Nat → Int32} {D : va_G} {cy : Nat → ClassId} {h : Nat} {r : Nat → Nat} {c1 : Nat → Nat} {bb : Nat → Nat → Nat} {ra rb ia : Nat → Nat} {ib : Nat → Nat → Nat} {kd : Nat → Nat} {Q : State → Prop} (C0 : lw_At p s m meth c b L xs) (hL : L ≤ 3072) (hKN : KN D (TY cy) s) {i : Nat} (hi : i + 6 ≤ L) {u : XS} {v : Nat → Int32} {A : Nat → Nat → Int32} {n dr : Nat} (hR : RelX kd v A n dr u) {H : Heap} {locs : List Loc} {ls : Array Slot} (hP : va_P D vwCl (XW cy c1 bb ra rb ia ib kd u ++ mW cy h r v A) H) (hD : va_D (AS s) (XW cy c1 bb ra rb ia ib kd u ++ mW cy h r v A)) (hS : va_S (AS s) s.heap H locs) (hl : lv_has ls 4 [(0, .ref b), (1, .ref (c1 0)), (2, .ref h), (3, .int (nI i))]) (kk : ∀ (u : XS) (v : Nat → Int32) (A : Nat → Nat → Int32) (n dr : Nat) (H : Heap) (locs : List Loc) (ls : Array Slot), RelX kd v A n dr u → va_P D vwCl (XW cy c1 bb ra rb ia ib kd u ++ mW cy h r v A) H → va_D (AS s) (XW cy c1 bb ra rb ia ib kd u ++ mW cy h r v A) → va_S (AS s) s.heap H locs → lv_has ls 4 [(0, .ref b), (1, .ref (c1 0)), (2, .ref h), (3, .int (nI i))] → W p l e room_1 s m #[Value.ref b] below meth c H locs 600000 7302250 Q (F0 m 1135 ls [])) : W p l e room_1 s m #[Value.ref b] below meth c H locs 600000 7302250 Q (F0 m 551 ls []) := by
  obtain ⟨hx, hb, hr, hml, hown, hts, hX, hbl, hlocks, hgv⟩ := id C0
  have hts' : ∀ w ∈ wsL_law, w.before #[Value.ref b] s = true := fun w h => hts w (wsL_law_in w h)
  have CF : CallFix p m c cL_law 4 s #[Value.ref b] wsL_law RL := ⟨hx, hb, hml, hown, hts'⟩
  have hA : ∀ q : Nat, s.heap.size ≤ q → AS s q := fun _ h => h
  have hbA : ¬ AS s b := Nat.not_le.mpr hbl
  obtain ⟨fs0, hx0⟩ := XW_0 cy c1 bb ra rb ia ib kd u
  refine lv_aload_n hx hb dL_law_551 rfl (lv_at hl 1 rfl) ?_
  refine lv_aload_n hx hb dL_law_552 rfl (lv_at hl 0 rfl) ?_
  refine lv_iload_n hx hb dL_law_553 rfl (lv_at hl 3 rfl) ?_
  refine lv_iconst (v := nI 1) hx hb dL_law_554 (by decide) ?_
  refine adN (k := i + 1) hx hb rfl dL_law_555 ?_
  refine sldN hx hb hX hbl hbA hS (j := i + 1) (by omega) hL dL_law_556 ?_
  refine lv_aload_n hx hb dL_law_557 rfl (lv_at hl 0 rfl) ?_
  refine lv_iload_n hx hb dL_law_558 rfl (lv_at hl 3 rfl) ?_
  refine lv_iconst (v := nI 2) hx hb dL_law_559 (by decide) ?_
  refine adN (k := i + 2) hx hb rfl dL_law_560 ?_
  refine sldN hx hb hX hbl hbA hS (j := i + 2) (by omega) hL dL_law_561 ?_
  refine call_iP (wc := XW cy c1 bb ra rb ia ib kd u) (wr := mW cy h r v A) (ws' := fun u_ : XS => XW cy c1 bb ra rb ia ib kd u_ ++ mW cy h r v A) (va_runV (As := [.int (xs (i + 1)), .int (xs (i + 2))]) (rest := []) CF (x_drawer l D cy _ c1 bb ra rb ia ib kd u v A n dr hR (xs (i + 1)) (xs (i + 2))) (cwV 2 hts' gL_law_X11_drawer rfl rfl rfl (by decide +kernel) ⟨Nat.le_of_ble_eq_true rfl, Nat.le_of_ble_eq_true rfl⟩) (pre_VP hKN hP hD (List.Perm.refl _) 0 10 rfl hx0) rfl rfl hl.1 rfl (lv_room (Nat.le_of_ble_eq_true rfl)) dL_law_562 ⟨Nat.le_of_ble_eq_true rfl, Nat.le_of_ble_eq_true rfl⟩) hS hA hP hD (List.Perm.refl _) (fun _ => List.Perm.refl _) (fun r1 u1 H locs hw hP hD hS => ?_)
  obtain ⟨e1, n1, dr1, hR1⟩ := hw
  refine lv_aload_n hx hb dL_law_565 rfl (lv_at hl 2 rfl) ?_
  refine lv_aload_n hx hb dL_law_566 rfl (lv_at hl 0 rfl) ?_
  refine lv_iload_n hx hb dL_law_567 rfl (lv_at hl 3 rfl) ?_
  refine lv_iconst (v := nI 1) hx hb dL_law_568 (by decide) ?_
  refine adN (k := i + 1) hx hb rfl dL_law_569 ?_
  refine sldN hx hb hX hbl hbA hS (j := i + 1) (by omega) hL dL_law_570 ?_
  refine lv_aload_n hx hb dL_law_571 rfl (lv_at hl 0 rfl) ?_
  refine lv_iload_n hx hb dL_law_572 rfl (lv_at hl 3 rfl) ?_
  refine lv_iconst (v := nI 2) hx hb dL_law_573 (by decide) ?_
  refine adN (k := i + 2) hx hb rfl dL_law_574 ?_
  refine sldN hx hb hX hbl hbA hS (j := i + 2) (by omega) hL dL_law_575 ?_
  refine call_iP (wc := mW cy h r v A) (wr := XW cy c1 bb ra rb ia ib kd u1) (ws' := fun w_ : MS => XW cy c1 bb ra rb ia ib kd u1 ++ mW cy h r w_.1 w_.2) (va_runV (As := [.int (xs (i + 1)), .int (xs (i + 2))]) (rest := [.int r1]) CF (y_drawer l D cy _ h r kd u v A n dr hR (xs (i + 1)) (xs (i + 2))) (cwV 2 hts' gL_law_X12_drawer rfl rfl rfl (by decide +kernel) ⟨Nat.le_of_ble_eq_true rfl, Nat.le_of_ble_eq_true rfl⟩) (pre_VP hKN hP hD List.perm_append_comm 0 11 rfl rfl) rfl rfl hl.1 rfl (lv_room (Nat.le_of_ble_eq_true rfl)) dL_law_576 ⟨Nat.le_of_ble_eq_true rfl, Nat.le_of_ble_eq_true rfl⟩) hS hA hP hD List.perm_append_comm (fun _ => List.perm_append_comm) (fun r2 w1 H locs hw2 hP hD hS => ?_)
  refine lv_icmp_eq (tgt := 1135) hx hb dL_law_579 (by decide) (fun _ => ?_) (fun c9 => absurd (e1.trans hw2.1.symm) c9)
  exact kk u1 w1.1 w1.2 n1 dr1 _ _ _ (hw2.2 u1 n1 dr1 hR1) hP hD hS hl
set_option maxHeartbeats 4000000 in
set_option maxRecDepth 100000 in
theorem lc_ahead {p : Program} {e : Env} {s : State} {m : MethodId} {below : List Frame} {meth : Method} {c : Code} {l : Launch} {b L : Nat} {xs : Nat → Int32} {D : va_G} {cy : Nat → ClassId} {h : Nat} {r : Nat → Nat} {c1 : Nat → Nat} {bb : Nat → Nat → Nat} {ra rb ia : Nat → Nat} {ib : Nat → Nat → Nat} {kd : Nat → Nat} {Q : State → Prop} (C0 : lw_At p s m meth c b L xs) (hL : L ≤ 3072) (hKN : KN D (TY cy) s) {i : Nat} (hi : i + 6 ≤ L) {u : XS} {v : Nat → Int32} {A : Nat → Nat → Int32} {n dr : Nat} (hR : RelX kd v A n dr u) {H : Heap} {locs : List Loc} {ls : Array Slot} (hP : va_P D vwCl (XW cy c1 bb ra rb ia ib kd u ++ mW cy h r v A) H) (hD : va_D (AS s) (XW cy c1 bb ra rb ia ib kd u ++ mW cy h r v A)) (hS : va_S (AS s) s.heap H locs) (hl : lv_has ls 4 [(0, .ref b), (1, .ref (c1 0)), (2, .ref h), (3, .int (nI i))]) (kk : ∀ (u : XS) (v : Nat → Int32) (A : Nat → Nat → Int32) (n dr : Nat) (H : Heap) (locs : List Loc) (ls : Array Slot), RelX kd v A n dr u → va_P D vwCl (XW cy c1 bb ra rb ia ib kd u ++ mW cy h r v A) H → va_D (AS s) (XW cy c1 bb ra rb ia ib kd u ++ mW cy h r v A) → va_S (AS s) s.heap H locs → lv_has ls 4 [(0, .ref b), (1, .ref (c1 0)), (2, .ref h), (3, .int (nI i))] → W p l e room_1 s m #[Value.ref b] below meth c H locs 600000 7302250 Q (F0 m 1135 ls [])) : W p l e room_1 s m #[Value.ref b] below meth c H locs 600000 7302250 Q (F0 m 584 ls []) := by
  obtain ⟨hx, hb, hr, hml, hown, hts, hX, hbl, hlocks, hgv⟩ := id C0
  have hts' : ∀ w ∈ wsL_law, w.before #[Value.ref b] s = true := fun w h => hts w (wsL_law_in w h)
  have CF : CallFix p m c cL_law 4 s #[Value.ref b] wsL_law RL := ⟨hx, hb, hml, hown, hts'⟩
  have hA : ∀ q : Nat, s.heap.size ≤ q → AS s q := fun _ h => h
  have hbA : ¬ AS s b := Nat.not_le.mpr hbl
  obtain ⟨fs0, hx0⟩ := XW_0 cy c1 bb ra rb ia ib kd u
  refine lv_aload_n hx hb dL_law_584 rfl (lv_at hl 1 rfl) ?_
  refine lv_aload_n hx hb dL_law_585 rfl (lv_at hl 0 rfl) ?_
  refine lv_iload_n hx hb dL_law_586 rfl (lv_at hl 3 rfl) ?_
  refine lv_iconst (v := nI 1) hx hb dL_law_587 (by decide) ?_
  refine adN (k := i + 1) hx hb rfl dL_law_588 ?_
  refine sldN hx hb hX hbl hbA hS (j := i + 1) (by omega) hL dL_law_589 ?_
  refine lv_aload_n hx hb dL_law_590 rfl (lv_at hl 0 rfl) ?_
  refine lv_iload_n hx hb dL_law_591 rfl (lv_at hl 3 rfl) ?_
  refine lv_iconst (v := nI 2) hx hb dL_law_592 (by decide) ?_
  refine adN (k := i + 2) hx hb rfl dL_law_593 ?_
  refine sldN hx hb hX hbl hbA hS (j := i + 2) (by omega) hL dL_law_594 ?_
  refine lv_aload_n hx hb dL_law_595 rfl (lv_at hl 0 rfl) ?_
  refine lv_iload_n hx hb dL_law_596 rfl (lv_at hl 3 rfl) ?_
  refine lv_iconst (v := nI 3) hx hb dL_law_597 (by decide) ?_
  refine adN (k := i + 3) hx hb rfl dL_law_598 ?_
  refine sldN hx hb hX hbl hbA hS (j := i + 3) (by omega) hL dL_law_599 ?_
  refine call_iP (wc := XW cy c1 bb ra rb ia ib kd u) (wr := mW cy h r v A) (ws' := fun u_ : XS => XW cy c1 bb ra rb ia ib kd u_ ++ mW cy h r v A) (va_runV (As := [.int (xs (i + 1)), .int (xs (i + 2)), .int (xs (i + 3))]) (rest := []) CF (x_ahead l D cy _ c1 bb ra rb ia ib kd u v A n dr hR (xs (i + 1)) (xs (i + 2)) (xs (i + 3))) (cwV 3 hts' gL_law_X11_ahead rfl rfl rfl (by decide +kernel) ⟨Nat.le_of_ble_eq_true rfl, Nat.le_of_ble_eq_true rfl⟩) (pre_VP hKN hP hD (List.Perm.refl _) 0 10 rfl hx0) rfl rfl hl.1 rfl (lv_room (Nat.le_of_ble_eq_true rfl)) dL_law_600 ⟨Nat.le_of_ble_eq_true rfl, Nat.le_of_ble_eq_true rfl⟩) hS hA hP hD (List.Perm.refl _) (fun _ => List.Perm.refl _) (fun r1 u1 H locs hw hP hD hS => ?_)
  obtain ⟨e1, n1, dr1, hR1⟩ := hw
  refine lv_aload_n hx hb dL_law_603 rfl (lv_at hl 2 rfl) ?_
  refine lv_aload_n hx hb dL_law_604 rfl (lv_at hl 0 rfl) ?_
  refine lv_iload_n hx hb dL_law_605 rfl (lv_at hl 3 rfl) ?_
  refine lv_iconst (v := nI 1) hx hb dL_law_606 (by decide) ?_
  refine adN (k := i + 1) hx hb rfl dL_law_607 ?_
  refine sldN hx hb hX hbl hbA hS (j := i + 1) (by omega) hL dL_law_608 ?_
  refine lv_aload_n hx hb dL_law_609 rfl (lv_at hl 0 rfl) ?_
  refine lv_iload_n hx hb dL_law_610 rfl (lv_at hl 3 rfl) ?_
  refine lv_iconst (v := nI 2) hx hb dL_law_611 (by decide) ?_
  refine adN (k := i + 2) hx hb rfl dL_law_612 ?_
  refine sldN hx hb hX hbl hbA hS (j := i + 2) (by omega) hL dL_law_613 ?_
  refine lv_aload_n hx hb dL_law_614 rfl (lv_at hl 0 rfl) ?_
  refine lv_iload_n hx hb dL_law_615 rfl (lv_at hl 3 rfl) ?_
  refine lv_iconst (v := nI 3) hx hb dL_law_616 (by decide) ?_
  refine adN (k := i + 3) hx hb rfl dL_law_617 ?_
  refine sldN hx hb hX hbl hbA hS (j := i + 3) (by omega) hL dL_law_618 ?_
  refine call_iP (wc := mW cy h r v A) (wr := XW cy c1 bb ra rb ia ib kd u1) (ws' := fun w_ : MS => XW cy c1 bb ra rb ia ib kd u1 ++ mW cy h r w_.1 w_.2) (va_runV (As := [.int (xs (i + 1)), .int (xs (i + 2)), .int (xs (i + 3))]) (rest := [.int r1]) CF (y_ahead l D cy _ h r kd u v A n dr hR (xs (i + 1)) (xs (i + 2)) (xs (i + 3))) (cwV 3 hts' gL_law_X12_ahead rfl rfl rfl (by decide +kernel) ⟨Nat.le_of_ble_eq_true rfl, Nat.le_of_ble_eq_true rfl⟩) (pre_VP hKN hP hD List.perm_append_comm 0 11 rfl rfl) rfl rfl hl.1 rfl (lv_room (Nat.le_of_ble_eq_true rfl)) dL_law_619 ⟨Nat.le_of_ble_eq_true rfl, Nat.le_of_ble_eq_true rfl⟩) hS hA hP hD List.perm_append_comm (fun _ => List.perm_append_comm) (fun r2 w1 H locs hw2 hP hD hS => ?_)
  refine lv_icmp_eq (tgt := 1135) hx hb dL_law_622 (by decide) (fun _ => ?_) (fun c9 => absurd (e1.trans hw2.1.symm) c9)
  exact kk u1 w1.1 w1.2 n1 dr1 _ _ _ (hw2.2 u1 n1 dr1 hR1) hP hD hS hl
set_option maxHeartbeats 4000000 in
set_option maxRecDepth 100000 in
theorem lc_found {p : Program} {e : Env} {s : State} {m : MethodId} {below : List Frame} {meth : Method} {c : Code} {l : Launch} {b L : Nat} {xs : Nat → Int32} {D : va_G} {cy : Nat → ClassId} {h : Nat} {r : Nat → Nat} {c1 : Nat → Nat} {bb : Nat → Nat → Nat} {ra rb ia : Nat → Nat} {ib : Nat → Nat → Nat} {kd : Nat → Nat} {Q : State → Prop} (C0 : lw_At p s m meth c b L xs) (hL : L ≤ 3072) (hKN : KN D (TY cy) s) {i : Nat} (hi : i + 6 ≤ L) {u : XS} {v : Nat → Int32} {A : Nat → Nat → Int32} {n dr : Nat} (hR : RelX kd v A n dr u) {H : Heap} {locs : List Loc} {ls : Array Slot} (hP : va_P D vwCl (XW cy c1 bb ra rb ia ib kd u ++ mW cy h r v A) H) (hD : va_D (AS s) (XW cy c1 bb ra rb ia ib kd u ++ mW cy h r v A)) (hS : va_S (AS s) s.heap H locs) (hl : lv_has ls 4 [(0, .ref b), (1, .ref (c1 0)), (2, .ref h), (3, .int (nI i))]) (kk : ∀ (u : XS) (v : Nat → Int32) (A : Nat → Nat → Int32) (n dr : Nat) (H : Heap) (locs : List Loc) (ls : Array Slot), RelX kd v A n dr u → va_P D vwCl (XW cy c1 bb ra rb ia ib kd u ++ mW cy h r v A) H → va_D (AS s) (XW cy c1 bb ra rb ia ib kd u ++ mW cy h r v A) → va_S (AS s) s.heap H locs → lv_has ls 4 [(0, .ref b), (1, .ref (c1 0)), (2, .ref h), (3, .int (nI i))] → W p l e room_1 s m #[Value.ref b] below meth c H locs 600000 7302250 Q (F0 m 1135 ls [])) : W p l e room_1 s m #[Value.ref b] below meth c H locs 600000 7302250 Q (F0 m 627 ls []) := by
  obtain ⟨hx, hb, hr, hml, hown, hts, hX, hbl, hlocks, hgv⟩ := id C0
  have hts' : ∀ w ∈ wsL_law, w.before #[Value.ref b] s = true := fun w h => hts w (wsL_law_in w h)
  have CF : CallFix p m c cL_law 4 s #[Value.ref b] wsL_law RL := ⟨hx, hb, hml, hown, hts'⟩
  have hA : ∀ q : Nat, s.heap.size ≤ q → AS s q := fun _ h => h
  have hbA : ¬ AS s b := Nat.not_le.mpr hbl
  obtain ⟨fs0, hx0⟩ := XW_0 cy c1 bb ra rb ia ib kd u
  refine lv_aload_n hx hb dL_law_627 rfl (lv_at hl 1 rfl) ?_
  refine lv_aload_n hx hb dL_law_628 rfl (lv_at hl 0 rfl) ?_
  refine lv_iload_n hx hb dL_law_629 rfl (lv_at hl 3 rfl) ?_
  refine lv_iconst (v := nI 1) hx hb dL_law_630 (by decide) ?_
  refine adN (k := i + 1) hx hb rfl dL_law_631 ?_
  refine sldN hx hb hX hbl hbA hS (j := i + 1) (by omega) hL dL_law_632 ?_
  refine lv_aload_n hx hb dL_law_633 rfl (lv_at hl 0 rfl) ?_
  refine lv_iload_n hx hb dL_law_634 rfl (lv_at hl 3 rfl) ?_
  refine lv_iconst (v := nI 2) hx hb dL_law_635 (by decide) ?_
  refine adN (k := i + 2) hx hb rfl dL_law_636 ?_
  refine sldN hx hb hX hbl hbA hS (j := i + 2) (by omega) hL dL_law_637 ?_
  refine call_iP (wc := XW cy c1 bb ra rb ia ib kd u) (wr := mW cy h r v A) (ws' := fun u_ : XS => XW cy c1 bb ra rb ia ib kd u_ ++ mW cy h r v A) (va_runV (As := [.int (xs (i + 1)), .int (xs (i + 2))]) (rest := []) CF (x_found l D cy _ c1 bb ra rb ia ib kd u v A n dr hR (xs (i + 1)) (xs (i + 2))) (cwV 2 hts' gL_law_X11_found rfl rfl rfl (by decide +kernel) ⟨Nat.le_of_ble_eq_true rfl, Nat.le_of_ble_eq_true rfl⟩) (pre_VP hKN hP hD (List.Perm.refl _) 0 10 rfl hx0) rfl rfl hl.1 rfl (lv_room (Nat.le_of_ble_eq_true rfl)) dL_law_638 ⟨Nat.le_of_ble_eq_true rfl, Nat.le_of_ble_eq_true rfl⟩) hS hA hP hD (List.Perm.refl _) (fun _ => List.Perm.refl _) (fun r1 u1 H locs hw hP hD hS => ?_)
  obtain ⟨e1, n1, dr1, hR1⟩ := hw
  refine lv_aload_n hx hb dL_law_641 rfl (lv_at hl 2 rfl) ?_
  refine lv_aload_n hx hb dL_law_642 rfl (lv_at hl 0 rfl) ?_
  refine lv_iload_n hx hb dL_law_643 rfl (lv_at hl 3 rfl) ?_
  refine lv_iconst (v := nI 1) hx hb dL_law_644 (by decide) ?_
  refine adN (k := i + 1) hx hb rfl dL_law_645 ?_
  refine sldN hx hb hX hbl hbA hS (j := i + 1) (by omega) hL dL_law_646 ?_
  refine lv_aload_n hx hb dL_law_647 rfl (lv_at hl 0 rfl) ?_
  refine lv_iload_n hx hb dL_law_648 rfl (lv_at hl 3 rfl) ?_
  refine lv_iconst (v := nI 2) hx hb dL_law_649 (by decide) ?_
  refine adN (k := i + 2) hx hb rfl dL_law_650 ?_
  refine sldN hx hb hX hbl hbA hS (j := i + 2) (by omega) hL dL_law_651 ?_
  refine call_iP (wc := mW cy h r v A) (wr := XW cy c1 bb ra rb ia ib kd u1) (ws' := fun w_ : MS => XW cy c1 bb ra rb ia ib kd u1 ++ mW cy h r w_.1 w_.2) (va_runV (As := [.int (xs (i + 1)), .int (xs (i + 2))]) (rest := [.int r1]) CF (y_found l D cy _ h r kd u v A n dr hR (xs (i + 1)) (xs (i + 2))) (cwV 2 hts' gL_law_X12_found rfl rfl rfl (by decide +kernel) ⟨Nat.le_of_ble_eq_true rfl, Nat.le_of_ble_eq_true rfl⟩) (pre_VP hKN hP hD List.perm_append_comm 0 11 rfl rfl) rfl rfl hl.1 rfl (lv_room (Nat.le_of_ble_eq_true rfl)) dL_law_652 ⟨Nat.le_of_ble_eq_true rfl, Nat.le_of_ble_eq_true rfl⟩) hS hA hP hD List.perm_append_comm (fun _ => List.perm_append_comm) (fun r2 w1 H locs hw2 hP hD hS => ?_)
  refine lv_icmp_eq (tgt := 1135) hx hb dL_law_655 (by decide) (fun _ => ?_) (fun c9 => absurd (e1.trans hw2.1.symm) c9)
  exact kk u1 w1.1 w1.2 n1 dr1 _ _ _ (hw2.2 u1 n1 dr1 hR1) hP hD hS hl
set_option maxHeartbeats 4000000 in
set_option maxRecDepth 100000 in
theorem lc_still {p : Program} {e : Env} {s : State} {m : MethodId} {below : List Frame} {meth : Method} {c : Code} {l : Launch} {b L : Nat} {xs : Nat → Int32} {D : va_G} {cy : Nat → ClassId} {h : Nat} {r : Nat → Nat} {c1 : Nat → Nat} {bb : Nat → Nat → Nat} {ra rb ia : Nat → Nat} {ib : Nat → Nat → Nat} {kd : Nat → Nat} {Q : State → Prop} (C0 : lw_At p s m meth c b L xs) (hL : L ≤ 3072) (hKN : KN D (TY cy) s) {i : Nat} (hi : i + 6 ≤ L) {u : XS} {v : Nat → Int32} {A : Nat → Nat → Int32} {n dr : Nat} (hR : RelX kd v A n dr u) {H : Heap} {locs : List Loc} {ls : Array Slot} (hP : va_P D vwCl (XW cy c1 bb ra rb ia ib kd u ++ mW cy h r v A) H) (hD : va_D (AS s) (XW cy c1 bb ra rb ia ib kd u ++ mW cy h r v A)) (hS : va_S (AS s) s.heap H locs) (hl : lv_has ls 4 [(0, .ref b), (1, .ref (c1 0)), (2, .ref h), (3, .int (nI i))]) (kk : ∀ (u : XS) (v : Nat → Int32) (A : Nat → Nat → Int32) (n dr : Nat) (H : Heap) (locs : List Loc) (ls : Array Slot), RelX kd v A n dr u → va_P D vwCl (XW cy c1 bb ra rb ia ib kd u ++ mW cy h r v A) H → va_D (AS s) (XW cy c1 bb ra rb ia ib kd u ++ mW cy h r v A) → va_S (AS s) s.heap H locs → lv_has ls 4 [(0, .ref b), (1, .ref (c1 0)), (2, .ref h), (3, .int (nI i))] → W p l e room_1 s m #[Value.ref b] below meth c H locs 600000 7302250 Q (F0 m 1135 ls [])) : W p l e room_1 s m #[Value.ref b] below meth c H locs 600000 7302250 Q (F0 m 660 ls []) := by
  obtain ⟨hx, hb, hr, hml, hown, hts, hX, hbl, hlocks, hgv⟩ := id C0
  have hts' : ∀ w ∈ wsL_law, w.before #[Value.ref b] s = true := fun w h => hts w (wsL_law_in w h)
  have CF : CallFix p m c cL_law 4 s #[Value.ref b] wsL_law RL := ⟨hx, hb, hml, hown, hts'⟩
  have hA : ∀ q : Nat, s.heap.size ≤ q → AS s q := fun _ h => h
  have hbA : ¬ AS s b := Nat.not_le.mpr hbl
  obtain ⟨fs0, hx0⟩ := XW_0 cy c1 bb ra rb ia ib kd u
  refine lv_aload_n hx hb dL_law_660 rfl (lv_at hl 1 rfl) ?_
  refine lv_aload_n hx hb dL_law_661 rfl (lv_at hl 0 rfl) ?_
  refine lv_iload_n hx hb dL_law_662 rfl (lv_at hl 3 rfl) ?_
  refine lv_iconst (v := nI 1) hx hb dL_law_663 (by decide) ?_
  refine adN (k := i + 1) hx hb rfl dL_law_664 ?_
  refine sldN hx hb hX hbl hbA hS (j := i + 1) (by omega) hL dL_law_665 ?_
  refine call_iP (wc := XW cy c1 bb ra rb ia ib kd u) (wr := mW cy h r v A) (ws' := fun u_ : XS => XW cy c1 bb ra rb ia ib kd u_ ++ mW cy h r v A) (va_runV (As := [.int (xs (i + 1))]) (rest := []) CF (x_still l D cy _ c1 bb ra rb ia ib kd u v A n dr hR (xs (i + 1))) (cwV 1 hts' gL_law_X11_still rfl rfl rfl (by decide +kernel) ⟨Nat.le_of_ble_eq_true rfl, Nat.le_of_ble_eq_true rfl⟩) (pre_VP hKN hP hD (List.Perm.refl _) 0 10 rfl hx0) rfl rfl hl.1 rfl (lv_room (Nat.le_of_ble_eq_true rfl)) dL_law_666 ⟨Nat.le_of_ble_eq_true rfl, Nat.le_of_ble_eq_true rfl⟩) hS hA hP hD (List.Perm.refl _) (fun _ => List.Perm.refl _) (fun r1 u1 H locs hw hP hD hS => ?_)
  obtain ⟨e1, n1, dr1, hR1⟩ := hw
  refine lv_aload_n hx hb dL_law_669 rfl (lv_at hl 2 rfl) ?_
  refine lv_aload_n hx hb dL_law_670 rfl (lv_at hl 0 rfl) ?_
  refine lv_iload_n hx hb dL_law_671 rfl (lv_at hl 3 rfl) ?_
  refine lv_iconst (v := nI 1) hx hb dL_law_672 (by decide) ?_
  refine adN (k := i + 1) hx hb rfl dL_law_673 ?_
  refine sldN hx hb hX hbl hbA hS (j := i + 1) (by omega) hL dL_law_674 ?_
  refine call_iP (wc := mW cy h r v A) (wr := XW cy c1 bb ra rb ia ib kd u1) (ws' := fun w_ : MS => XW cy c1 bb ra rb ia ib kd u1 ++ mW cy h r w_.1 w_.2) (va_runV (As := [.int (xs (i + 1))]) (rest := [.int r1]) CF (y_still l D cy _ h r kd u v A n dr hR (xs (i + 1))) (cwV 1 hts' gL_law_X12_still rfl rfl rfl (by decide +kernel) ⟨Nat.le_of_ble_eq_true rfl, Nat.le_of_ble_eq_true rfl⟩) (pre_VP hKN hP hD List.perm_append_comm 0 11 rfl rfl) rfl rfl hl.1 rfl (lv_room (Nat.le_of_ble_eq_true rfl)) dL_law_675 ⟨Nat.le_of_ble_eq_true rfl, Nat.le_of_ble_eq_true rfl⟩) hS hA hP hD List.perm_append_comm (fun _ => List.perm_append_comm) (fun r2 w1 H locs hw2 hP hD hS => ?_)
  refine lv_icmp_eq (tgt := 1135) hx hb dL_law_678 (by decide) (fun _ => ?_) (fun c9 => absurd (e1.trans hw2.1.symm) c9)
  exact kk u1 w1.1 w1.2 n1 dr1 _ _ _ (hw2.2 u1 n1 dr1 hR1) hP hD hS hl
set_option maxHeartbeats 4000000 in
set_option maxRecDepth 100000 in
theorem lc_mates {p : Program} {e : Env} {s : State} {m : MethodId} {below : List Frame} {meth : Method} {c : Code} {l : Launch} {b L : Nat} {xs : Nat → Int32} {D : va_G} {cy : Nat → ClassId} {h : Nat} {r : Nat → Nat} {c1 : Nat → Nat} {bb : Nat → Nat → Nat} {ra rb ia : Nat → Nat} {ib : Nat → Nat → Nat} {kd : Nat → Nat} {Q : State → Prop} (C0 : lw_At p s m meth c b L xs) (hL : L ≤ 3072) (hKN : KN D (TY cy) s) {i : Nat} (hi : i + 6 ≤ L) {u : XS} {v : Nat → Int32} {A : Nat → Nat → Int32} {n dr : Nat} (hR : RelX kd v A n dr u) {H : Heap} {locs : List Loc} {ls : Array Slot} (hP : va_P D vwCl (XW cy c1 bb ra rb ia ib kd u ++ mW cy h r v A) H) (hD : va_D (AS s) (XW cy c1 bb ra rb ia ib kd u ++ mW cy h r v A)) (hS : va_S (AS s) s.heap H locs) (hl : lv_has ls 4 [(0, .ref b), (1, .ref (c1 0)), (2, .ref h), (3, .int (nI i))]) (kk : ∀ (u : XS) (v : Nat → Int32) (A : Nat → Nat → Int32) (n dr : Nat) (H : Heap) (locs : List Loc) (ls : Array Slot), RelX kd v A n dr u → va_P D vwCl (XW cy c1 bb ra rb ia ib kd u ++ mW cy h r v A) H → va_D (AS s) (XW cy c1 bb ra rb ia ib kd u ++ mW cy h r v A) → va_S (AS s) s.heap H locs → lv_has ls 4 [(0, .ref b), (1, .ref (c1 0)), (2, .ref h), (3, .int (nI i))] → W p l e room_1 s m #[Value.ref b] below meth c H locs 600000 7302250 Q (F0 m 1135 ls [])) : W p l e room_1 s m #[Value.ref b] below meth c H locs 600000 7302250 Q (F0 m 683 ls []) := by
  obtain ⟨hx, hb, hr, hml, hown, hts, hX, hbl, hlocks, hgv⟩ := id C0
  have hts' : ∀ w ∈ wsL_law, w.before #[Value.ref b] s = true := fun w h => hts w (wsL_law_in w h)
  have CF : CallFix p m c cL_law 4 s #[Value.ref b] wsL_law RL := ⟨hx, hb, hml, hown, hts'⟩
  have hA : ∀ q : Nat, s.heap.size ≤ q → AS s q := fun _ h => h
  have hbA : ¬ AS s b := Nat.not_le.mpr hbl
  obtain ⟨fs0, hx0⟩ := XW_0 cy c1 bb ra rb ia ib kd u
  refine lv_aload_n hx hb dL_law_683 rfl (lv_at hl 1 rfl) ?_
  refine call_iP (wc := XW cy c1 bb ra rb ia ib kd u) (wr := mW cy h r v A) (ws' := fun u_ : XS => XW cy c1 bb ra rb ia ib kd u_ ++ mW cy h r v A) (va_runV (As := []) (rest := []) CF (x_mates l D cy _ c1 bb ra rb ia ib kd u v A n dr hR ) (cwV 0 hts' gL_law_X11_mates rfl rfl rfl (by decide +kernel) ⟨Nat.le_of_ble_eq_true rfl, Nat.le_of_ble_eq_true rfl⟩) (pre_VP hKN hP hD (List.Perm.refl _) 0 10 rfl hx0) rfl rfl hl.1 rfl (lv_room (Nat.le_of_ble_eq_true rfl)) dL_law_684 ⟨Nat.le_of_ble_eq_true rfl, Nat.le_of_ble_eq_true rfl⟩) hS hA hP hD (List.Perm.refl _) (fun _ => List.Perm.refl _) (fun r1 u1 H locs hw hP hD hS => ?_)
  obtain ⟨e1, n1, dr1, hR1⟩ := hw
  refine lv_aload_n hx hb dL_law_687 rfl (lv_at hl 2 rfl) ?_
  refine call_iP (wc := mW cy h r v A) (wr := XW cy c1 bb ra rb ia ib kd u1) (ws' := fun w_ : MS => XW cy c1 bb ra rb ia ib kd u1 ++ mW cy h r w_.1 w_.2) (va_runV (As := []) (rest := [.int r1]) CF (y_mates l D cy _ h r kd u v A n dr hR ) (cwV 0 hts' gL_law_X12_mates rfl rfl rfl (by decide +kernel) ⟨Nat.le_of_ble_eq_true rfl, Nat.le_of_ble_eq_true rfl⟩) (pre_VP hKN hP hD List.perm_append_comm 0 11 rfl rfl) rfl rfl hl.1 rfl (lv_room (Nat.le_of_ble_eq_true rfl)) dL_law_688 ⟨Nat.le_of_ble_eq_true rfl, Nat.le_of_ble_eq_true rfl⟩) hS hA hP hD List.perm_append_comm (fun _ => List.perm_append_comm) (fun r2 w1 H locs hw2 hP hD hS => ?_)
  refine lv_icmp_eq (tgt := 1135) hx hb dL_law_691 (by decide) (fun _ => ?_) (fun c9 => absurd (e1.trans hw2.1.symm) c9)
  exact kk u1 w1.1 w1.2 n1 dr1 _ _ _ (hw2.2 u1 n1 dr1 hR1) hP hD hS hl
set_option maxHeartbeats 4000000 in
set_option maxRecDepth 100000 in
theorem lc_rods {p : Program} {e : Env} {s : State} {m : MethodId} {below : List Frame} {meth : Method} {c : Code} {l : Launch} {b L : Nat} {xs : Nat → Int32} {D : va_G} {cy : Nat → ClassId} {h : Nat} {r : Nat → Nat} {c1 : Nat → Nat} {bb : Nat → Nat → Nat} {ra rb ia : Nat → Nat} {ib : Nat → Nat → Nat} {kd : Nat → Nat} {Q : State → Prop} (C0 : lw_At p s m meth c b L xs) (hL : L ≤ 3072) (hKN : KN D (TY cy) s) {i : Nat} (hi : i + 6 ≤ L) {u : XS} {v : Nat → Int32} {A : Nat → Nat → Int32} {n dr : Nat} (hR : RelX kd v A n dr u) {H : Heap} {locs : List Loc} {ls : Array Slot} (hP : va_P D vwCl (XW cy c1 bb ra rb ia ib kd u ++ mW cy h r v A) H) (hD : va_D (AS s) (XW cy c1 bb ra rb ia ib kd u ++ mW cy h r v A)) (hS : va_S (AS s) s.heap H locs) (hl : lv_has ls 4 [(0, .ref b), (1, .ref (c1 0)), (2, .ref h), (3, .int (nI i))]) (kk : ∀ (u : XS) (v : Nat → Int32) (A : Nat → Nat → Int32) (n dr : Nat) (H : Heap) (locs : List Loc) (ls : Array Slot), RelX kd v A n dr u → va_P D vwCl (XW cy c1 bb ra rb ia ib kd u ++ mW cy h r v A) H → va_D (AS s) (XW cy c1 bb ra rb ia ib kd u ++ mW cy h r v A) → va_S (AS s) s.heap H locs → lv_has ls 4 [(0, .ref b), (1, .ref (c1 0)), (2, .ref h), (3, .int (nI i))] → W p l e room_1 s m #[Value.ref b] below meth c H locs 600000 7302250 Q (F0 m 1135 ls [])) : W p l e room_1 s m #[Value.ref b] below meth c H locs 600000 7302250 Q (F0 m 696 ls []) := by
  obtain ⟨hx, hb, hr, hml, hown, hts, hX, hbl, hlocks, hgv⟩ := id C0
  have hts' : ∀ w ∈ wsL_law, w.before #[Value.ref b] s = true := fun w h => hts w (wsL_law_in w h)
  have CF : CallFix p m c cL_law 4 s #[Value.ref b] wsL_law RL := ⟨hx, hb, hml, hown, hts'⟩
  have hA : ∀ q : Nat, s.heap.size ≤ q → AS s q := fun _ h => h
  have hbA : ¬ AS s b := Nat.not_le.mpr hbl
  obtain ⟨fs0, hx0⟩ := XW_0 cy c1 bb ra rb ia ib kd u
  refine lv_aload_n hx hb dL_law_696 rfl (lv_at hl 1 rfl) ?_
  refine lv_aload_n hx hb dL_law_697 rfl (lv_at hl 0 rfl) ?_
  refine lv_iload_n hx hb dL_law_698 rfl (lv_at hl 3 rfl) ?_
  refine lv_iconst (v := nI 1) hx hb dL_law_699 (by decide) ?_
  refine adN (k := i + 1) hx hb rfl dL_law_700 ?_
  refine sldN hx hb hX hbl hbA hS (j := i + 1) (by omega) hL dL_law_701 ?_
  refine lv_aload_n hx hb dL_law_702 rfl (lv_at hl 0 rfl) ?_
  refine lv_iload_n hx hb dL_law_703 rfl (lv_at hl 3 rfl) ?_
  refine lv_iconst (v := nI 2) hx hb dL_law_704 (by decide) ?_
  refine adN (k := i + 2) hx hb rfl dL_law_705 ?_
  refine sldN hx hb hX hbl hbA hS (j := i + 2) (by omega) hL dL_law_706 ?_
  refine lv_aload_n hx hb dL_law_707 rfl (lv_at hl 0 rfl) ?_
  refine lv_iload_n hx hb dL_law_708 rfl (lv_at hl 3 rfl) ?_
  refine lv_iconst (v := nI 3) hx hb dL_law_709 (by decide) ?_
  refine adN (k := i + 3) hx hb rfl dL_law_710 ?_
  refine sldN hx hb hX hbl hbA hS (j := i + 3) (by omega) hL dL_law_711 ?_
  refine lv_aload_n hx hb dL_law_712 rfl (lv_at hl 0 rfl) ?_
  refine lv_iload_n hx hb dL_law_713 rfl (lv_at hl 3 rfl) ?_
  refine lv_iconst (v := nI 4) hx hb dL_law_714 (by decide) ?_
  refine adN (k := i + 4) hx hb rfl dL_law_715 ?_
  refine sldN hx hb hX hbl hbA hS (j := i + 4) (by omega) hL dL_law_716 ?_
  refine call_iP (wc := XW cy c1 bb ra rb ia ib kd u) (wr := mW cy h r v A) (ws' := fun u_ : XS => XW cy c1 bb ra rb ia ib kd u_ ++ mW cy h r v A) (va_runV (As := [.int (xs (i + 1)), .int (xs (i + 2)), .int (xs (i + 3)), .int (xs (i + 4))]) (rest := []) CF (x_rods l D cy _ c1 bb ra rb ia ib kd u v A n dr hR (xs (i + 1)) (xs (i + 2)) (xs (i + 3)) (xs (i + 4))) (cwV 4 hts' gL_law_X11_rods rfl rfl rfl (by decide +kernel) ⟨Nat.le_of_ble_eq_true rfl, Nat.le_of_ble_eq_true rfl⟩) (pre_VP hKN hP hD (List.Perm.refl _) 0 10 rfl hx0) rfl rfl hl.1 rfl (lv_room (Nat.le_of_ble_eq_true rfl)) dL_law_717 ⟨Nat.le_of_ble_eq_true rfl, Nat.le_of_ble_eq_true rfl⟩) hS hA hP hD (List.Perm.refl _) (fun _ => List.Perm.refl _) (fun r1 u1 H locs hw hP hD hS => ?_)
  obtain ⟨e1, n1, dr1, hR1⟩ := hw
  refine lv_aload_n hx hb dL_law_720 rfl (lv_at hl 2 rfl) ?_
  refine lv_aload_n hx hb dL_law_721 rfl (lv_at hl 0 rfl) ?_
  refine lv_iload_n hx hb dL_law_722 rfl (lv_at hl 3 rfl) ?_
  refine lv_iconst (v := nI 1) hx hb dL_law_723 (by decide) ?_
  refine adN (k := i + 1) hx hb rfl dL_law_724 ?_
  refine sldN hx hb hX hbl hbA hS (j := i + 1) (by omega) hL dL_law_725 ?_
  refine lv_aload_n hx hb dL_law_726 rfl (lv_at hl 0 rfl) ?_
  refine lv_iload_n hx hb dL_law_727 rfl (lv_at hl 3 rfl) ?_
  refine lv_iconst (v := nI 2) hx hb dL_law_728 (by decide) ?_
  refine adN (k := i + 2) hx hb rfl dL_law_729 ?_
  refine sldN hx hb hX hbl hbA hS (j := i + 2) (by omega) hL dL_law_730 ?_
  refine lv_aload_n hx hb dL_law_731 rfl (lv_at hl 0 rfl) ?_
  refine lv_iload_n hx hb dL_law_732 rfl (lv_at hl 3 rfl) ?_
  refine lv_iconst (v := nI 3) hx hb dL_law_733 (by decide) ?_
  refine adN (k := i + 3) hx hb rfl dL_law_734 ?_
  refine sldN hx hb hX hbl hbA hS (j := i + 3) (by omega) hL dL_law_735 ?_
  refine lv_aload_n hx hb dL_law_736 rfl (lv_at hl 0 rfl) ?_
  refine lv_iload_n hx hb dL_law_737 rfl (lv_at hl 3 rfl) ?_
  refine lv_iconst (v := nI 4) hx hb dL_law_738 (by decide) ?_
  refine adN (k := i + 4) hx hb rfl dL_law_739 ?_
  refine sldN hx hb hX hbl hbA hS (j := i + 4) (by omega) hL dL_law_740 ?_
  refine call_iP (wc := mW cy h r v A) (wr := XW cy c1 bb ra rb ia ib kd u1) (ws' := fun w_ : MS => XW cy c1 bb ra rb ia ib kd u1 ++ mW cy h r w_.1 w_.2) (va_runV (As := [.int (xs (i + 1)), .int (xs (i + 2)), .int (xs (i + 3)), .int (xs (i + 4))]) (rest := [.int r1]) CF (y_rods l D cy _ h r kd u v A n dr hR (xs (i + 1)) (xs (i + 2)) (xs (i + 3)) (xs (i + 4))) (cwV 4 hts' gL_law_X12_rods rfl rfl rfl (by decide +kernel) ⟨Nat.le_of_ble_eq_true rfl, Nat.le_of_ble_eq_true rfl⟩) (pre_VP hKN hP hD List.perm_append_comm 0 11 rfl rfl) rfl rfl hl.1 rfl (lv_room (Nat.le_of_ble_eq_true rfl)) dL_law_741 ⟨Nat.le_of_ble_eq_true rfl, Nat.le_of_ble_eq_true rfl⟩) hS hA hP hD List.perm_append_comm (fun _ => List.perm_append_comm) (fun r2 w1 H locs hw2 hP hD hS => ?_)
  refine lv_icmp_eq (tgt := 1135) hx hb dL_law_744 (by decide) (fun _ => ?_) (fun c9 => absurd (e1.trans hw2.1.symm) c9)
  exact kk u1 w1.1 w1.2 n1 dr1 _ _ _ (hw2.2 u1 n1 dr1 hR1) hP hD hS hl
set_option maxHeartbeats 4000000 in
set_option maxRecDepth 100000 in
theorem lc_tour {p : Program} {e : Env} {s : State} {m : MethodId} {below : List Frame} {meth : Method} {c : Code} {l : Launch} {b L : Nat} {xs : Nat → Int32} {D : va_G} {cy : Nat → ClassId} {h : Nat} {r : Nat → Nat} {c1 : Nat → Nat} {bb : Nat → Nat → Nat} {ra rb ia : Nat → Nat} {ib : Nat → Nat → Nat} {kd : Nat → Nat} {Q : State → Prop} (C0 : lw_At p s m meth c b L xs) (hL : L ≤ 3072) (hKN : KN D (TY cy) s) {i : Nat} (hi : i + 6 ≤ L) {u : XS} {v : Nat → Int32} {A : Nat → Nat → Int32} {n dr : Nat} (hR : RelX kd v A n dr u) {H : Heap} {locs : List Loc} {ls : Array Slot} (hP : va_P D vwCl (XW cy c1 bb ra rb ia ib kd u ++ mW cy h r v A) H) (hD : va_D (AS s) (XW cy c1 bb ra rb ia ib kd u ++ mW cy h r v A)) (hS : va_S (AS s) s.heap H locs) (hl : lv_has ls 4 [(0, .ref b), (1, .ref (c1 0)), (2, .ref h), (3, .int (nI i))]) (kk : ∀ (u : XS) (v : Nat → Int32) (A : Nat → Nat → Int32) (n dr : Nat) (H : Heap) (locs : List Loc) (ls : Array Slot), RelX kd v A n dr u → va_P D vwCl (XW cy c1 bb ra rb ia ib kd u ++ mW cy h r v A) H → va_D (AS s) (XW cy c1 bb ra rb ia ib kd u ++ mW cy h r v A) → va_S (AS s) s.heap H locs → lv_has ls 4 [(0, .ref b), (1, .ref (c1 0)), (2, .ref h), (3, .int (nI i))] → W p l e room_1 s m #[Value.ref b] below meth c H locs 600000 7302250 Q (F0 m 1135 ls [])) : W p l e room_1 s m #[Value.ref b] below meth c H locs 600000 7302250 Q (F0 m 749 ls []) := by
  obtain ⟨hx, hb, hr, hml, hown, hts, hX, hbl, hlocks, hgv⟩ := id C0
  have hts' : ∀ w ∈ wsL_law, w.before #[Value.ref b] s = true := fun w h => hts w (wsL_law_in w h)
  have CF : CallFix p m c cL_law 4 s #[Value.ref b] wsL_law RL := ⟨hx, hb, hml, hown, hts'⟩
  have hA : ∀ q : Nat, s.heap.size ≤ q → AS s q := fun _ h => h
  have hbA : ¬ AS s b := Nat.not_le.mpr hbl
  obtain ⟨fs0, hx0⟩ := XW_0 cy c1 bb ra rb ia ib kd u
  refine lv_aload_n hx hb dL_law_749 rfl (lv_at hl 1 rfl) ?_
  refine lv_aload_n hx hb dL_law_750 rfl (lv_at hl 0 rfl) ?_
  refine lv_iload_n hx hb dL_law_751 rfl (lv_at hl 3 rfl) ?_
  refine lv_iconst (v := nI 1) hx hb dL_law_752 (by decide) ?_
  refine adN (k := i + 1) hx hb rfl dL_law_753 ?_
  refine sldN hx hb hX hbl hbA hS (j := i + 1) (by omega) hL dL_law_754 ?_
  refine lv_aload_n hx hb dL_law_755 rfl (lv_at hl 0 rfl) ?_
  refine lv_iload_n hx hb dL_law_756 rfl (lv_at hl 3 rfl) ?_
  refine lv_iconst (v := nI 2) hx hb dL_law_757 (by decide) ?_
  refine adN (k := i + 2) hx hb rfl dL_law_758 ?_
  refine sldN hx hb hX hbl hbA hS (j := i + 2) (by omega) hL dL_law_759 ?_
  refine call_iP (wc := XW cy c1 bb ra rb ia ib kd u) (wr := mW cy h r v A) (ws' := fun u_ : XS => XW cy c1 bb ra rb ia ib kd u_ ++ mW cy h r v A) (va_runV (As := [.int (xs (i + 1)), .int (xs (i + 2))]) (rest := []) CF (x_tour l D cy _ c1 bb ra rb ia ib kd u v A n dr hR (xs (i + 1)) (xs (i + 2))) (cwV 2 hts' gL_law_X11_tour rfl rfl rfl (by decide +kernel) ⟨Nat.le_of_ble_eq_true rfl, Nat.le_of_ble_eq_true rfl⟩) (pre_VP hKN hP hD (List.Perm.refl _) 0 10 rfl hx0) rfl rfl hl.1 rfl (lv_room (Nat.le_of_ble_eq_true rfl)) dL_law_760 ⟨Nat.le_of_ble_eq_true rfl, Nat.le_of_ble_eq_true rfl⟩) hS hA hP hD (List.Perm.refl _) (fun _ => List.Perm.refl _) (fun r1 u1 H locs hw hP hD hS => ?_)
  obtain ⟨e1, n1, dr1, hR1⟩ := hw
  refine lv_aload_n hx hb dL_law_763 rfl (lv_at hl 2 rfl) ?_
  refine lv_aload_n hx hb dL_law_764 rfl (lv_at hl 0 rfl) ?_
  refine lv_iload_n hx hb dL_law_765 rfl (lv_at hl 3 rfl) ?_
  refine lv_iconst (v := nI 1) hx hb dL_law_766 (by decide) ?_
  refine adN (k := i + 1) hx hb rfl dL_law_767 ?_
  refine sldN hx hb hX hbl hbA hS (j := i + 1) (by omega) hL dL_law_768 ?_
  refine lv_aload_n hx hb dL_law_769 rfl (lv_at hl 0 rfl) ?_
  refine lv_iload_n hx hb dL_law_770 rfl (lv_at hl 3 rfl) ?_
  refine lv_iconst (v := nI 2) hx hb dL_law_771 (by decide) ?_
  refine adN (k := i + 2) hx hb rfl dL_law_772 ?_
  refine sldN hx hb hX hbl hbA hS (j := i + 2) (by omega) hL dL_law_773 ?_
  refine call_iP (wc := mW cy h r v A) (wr := XW cy c1 bb ra rb ia ib kd u1) (ws' := fun w_ : MS => XW cy c1 bb ra rb ia ib kd u1 ++ mW cy h r w_.1 w_.2) (va_runV (As := [.int (xs (i + 1)), .int (xs (i + 2))]) (rest := [.int r1]) CF (y_tour l D cy _ h r kd u v A n dr hR (xs (i + 1)) (xs (i + 2))) (cwV 2 hts' gL_law_X12_tour rfl rfl rfl (by decide +kernel) ⟨Nat.le_of_ble_eq_true rfl, Nat.le_of_ble_eq_true rfl⟩) (pre_VP hKN hP hD List.perm_append_comm 0 11 rfl rfl) rfl rfl hl.1 rfl (lv_room (Nat.le_of_ble_eq_true rfl)) dL_law_774 ⟨Nat.le_of_ble_eq_true rfl, Nat.le_of_ble_eq_true rfl⟩) hS hA hP hD List.perm_append_comm (fun _ => List.perm_append_comm) (fun r2 w1 H locs hw2 hP hD hS => ?_)
  refine lv_icmp_eq (tgt := 1135) hx hb dL_law_777 (by decide) (fun _ => ?_) (fun c9 => absurd (e1.trans hw2.1.symm) c9)
  exact kk u1 w1.1 w1.2 n1 dr1 _ _ _ (hw2.2 u1 n1 dr1 hR1) hP hD hS hl
set_option maxHeartbeats 4000000 in
set_option maxRecDepth 100000 in
theorem lc_fits {p : Program} {e : Env} {s : State} {m : MethodId} {below : List Frame} {meth : Method} {c : Code} {l : Launch} {b L : Nat} {xs : Nat → Int32} {D : va_G} {cy : Nat → ClassId} {h : Nat} {r : Nat → Nat} {c1 : Nat → Nat} {bb : Nat → Nat → Nat} {ra rb ia : Nat → Nat} {ib : Nat → Nat → Nat} {kd : Nat → Nat} {Q : State → Prop} (C0 : lw_At p s m meth c b L xs) (hL : L ≤ 3072) (hKN : KN D (TY cy) s) {i : Nat} (hi : i + 6 ≤ L) {u : XS} {v : Nat → Int32} {A : Nat → Nat → Int32} {n dr : Nat} (hR : RelX kd v A n dr u) {H : Heap} {locs : List Loc} {ls : Array Slot} (hP : va_P D vwCl (XW cy c1 bb ra rb ia ib kd u ++ mW cy h r v A) H) (hD : va_D (AS s) (XW cy c1 bb ra rb ia ib kd u ++ mW cy h r v A)) (hS : va_S (AS s) s.heap H locs) (hl : lv_has ls 4 [(0, .ref b), (1, .ref (c1 0)), (2, .ref h), (3, .int (nI i))]) (kk : ∀ (u : XS) (v : Nat → Int32) (A : Nat → Nat → Int32) (n dr : Nat) (H : Heap) (locs : List Loc) (ls : Array Slot), RelX kd v A n dr u → va_P D vwCl (XW cy c1 bb ra rb ia ib kd u ++ mW cy h r v A) H → va_D (AS s) (XW cy c1 bb ra rb ia ib kd u ++ mW cy h r v A) → va_S (AS s) s.heap H locs → lv_has ls 4 [(0, .ref b), (1, .ref (c1 0)), (2, .ref h), (3, .int (nI i))] → W p l e room_1 s m #[Value.ref b] below meth c H locs 600000 7302250 Q (F0 m 1135 ls [])) : W p l e room_1 s m #[Value.ref b] below meth c H locs 600000 7302250 Q (F0 m 782 ls []) := by
  obtain ⟨hx, hb, hr, hml, hown, hts, hX, hbl, hlocks, hgv⟩ := id C0
  have hts' : ∀ w ∈ wsL_law, w.before #[Value.ref b] s = true := fun w h => hts w (wsL_law_in w h)
  have CF : CallFix p m c cL_law 4 s #[Value.ref b] wsL_law RL := ⟨hx, hb, hml, hown, hts'⟩
  have hA : ∀ q : Nat, s.heap.size ≤ q → AS s q := fun _ h => h
  have hbA : ¬ AS s b := Nat.not_le.mpr hbl
  obtain ⟨fs0, hx0⟩ := XW_0 cy c1 bb ra rb ia ib kd u
  refine lv_aload_n hx hb dL_law_782 rfl (lv_at hl 1 rfl) ?_
  refine lv_aload_n hx hb dL_law_783 rfl (lv_at hl 0 rfl) ?_
  refine lv_iload_n hx hb dL_law_784 rfl (lv_at hl 3 rfl) ?_
  refine lv_iconst (v := nI 1) hx hb dL_law_785 (by decide) ?_
  refine adN (k := i + 1) hx hb rfl dL_law_786 ?_
  refine sldN hx hb hX hbl hbA hS (j := i + 1) (by omega) hL dL_law_787 ?_
  refine lv_aload_n hx hb dL_law_788 rfl (lv_at hl 0 rfl) ?_
  refine lv_iload_n hx hb dL_law_789 rfl (lv_at hl 3 rfl) ?_
  refine lv_iconst (v := nI 2) hx hb dL_law_790 (by decide) ?_
  refine adN (k := i + 2) hx hb rfl dL_law_791 ?_
  refine sldN hx hb hX hbl hbA hS (j := i + 2) (by omega) hL dL_law_792 ?_
  refine lv_aload_n hx hb dL_law_793 rfl (lv_at hl 0 rfl) ?_
  refine lv_iload_n hx hb dL_law_794 rfl (lv_at hl 3 rfl) ?_
  refine lv_iconst (v := nI 3) hx hb dL_law_795 (by decide) ?_
  refine adN (k := i + 3) hx hb rfl dL_law_796 ?_
  refine sldN hx hb hX hbl hbA hS (j := i + 3) (by omega) hL dL_law_797 ?_
  refine lv_aload_n hx hb dL_law_798 rfl (lv_at hl 0 rfl) ?_
  refine lv_iload_n hx hb dL_law_799 rfl (lv_at hl 3 rfl) ?_
  refine lv_iconst (v := nI 4) hx hb dL_law_800 (by decide) ?_
  refine adN (k := i + 4) hx hb rfl dL_law_801 ?_
  refine sldN hx hb hX hbl hbA hS (j := i + 4) (by omega) hL dL_law_802 ?_
  refine lv_aload_n hx hb dL_law_803 rfl (lv_at hl 0 rfl) ?_
  refine lv_iload_n hx hb dL_law_804 rfl (lv_at hl 3 rfl) ?_
  refine lv_iconst (v := nI 5) hx hb dL_law_805 (by decide) ?_
  refine adN (k := i + 5) hx hb rfl dL_law_806 ?_
  refine sldN hx hb hX hbl hbA hS (j := i + 5) (by omega) hL dL_law_807 ?_
  refine call_iP (wc := XW cy c1 bb ra rb ia ib kd u) (wr := mW cy h r v A) (ws' := fun u_ : XS => XW cy c1 bb ra rb ia ib kd u_ ++ mW cy h r v A) (va_runV (As := [.int (xs (i + 1)), .int (xs (i + 2)), .int (xs (i + 3)), .int (xs (i + 4)), .int (xs (i + 5))]) (rest := []) CF (x_fits l D cy _ c1 bb ra rb ia ib kd u v A n dr hR (xs (i + 1)) (xs (i + 2)) (xs (i + 3)) (xs (i + 4)) (xs (i + 5))) (cwV 5 hts' gL_law_X11_fits rfl rfl rfl (by decide +kernel) ⟨Nat.le_of_ble_eq_true rfl, Nat.le_of_ble_eq_true rfl⟩) (pre_VP hKN hP hD (List.Perm.refl _) 0 10 rfl hx0) rfl rfl hl.1 rfl (lv_room (Nat.le_of_ble_eq_true rfl)) dL_law_808 ⟨Nat.le_of_ble_eq_true rfl, Nat.le_of_ble_eq_true rfl⟩) hS hA hP hD (List.Perm.refl _) (fun _ => List.Perm.refl _) (fun r1 u1 H locs hw hP hD hS => ?_)
  obtain ⟨e1, n1, dr1, hR1⟩ := hw
  refine lv_aload_n hx hb dL_law_811 rfl (lv_at hl 2 rfl) ?_
  refine lv_aload_n hx hb dL_law_812 rfl (lv_at hl 0 rfl) ?_
  refine lv_iload_n hx hb dL_law_813 rfl (lv_at hl 3 rfl) ?_
  refine lv_iconst (v := nI 1) hx hb dL_law_814 (by decide) ?_
  refine adN (k := i + 1) hx hb rfl dL_law_815 ?_
  refine sldN hx hb hX hbl hbA hS (j := i + 1) (by omega) hL dL_law_816 ?_
  refine lv_aload_n hx hb dL_law_817 rfl (lv_at hl 0 rfl) ?_
  refine lv_iload_n hx hb dL_law_818 rfl (lv_at hl 3 rfl) ?_
  refine lv_iconst (v := nI 2) hx hb dL_law_819 (by decide) ?_
  refine adN (k := i + 2) hx hb rfl dL_law_820 ?_
  refine sldN hx hb hX hbl hbA hS (j := i + 2) (by omega) hL dL_law_821 ?_
  refine lv_aload_n hx hb dL_law_822 rfl (lv_at hl 0 rfl) ?_
  refine lv_iload_n hx hb dL_law_823 rfl (lv_at hl 3 rfl) ?_
  refine lv_iconst (v := nI 3) hx hb dL_law_824 (by decide) ?_
  refine adN (k := i + 3) hx hb rfl dL_law_825 ?_
  refine sldN hx hb hX hbl hbA hS (j := i + 3) (by omega) hL dL_law_826 ?_
  refine lv_aload_n hx hb dL_law_827 rfl (lv_at hl 0 rfl) ?_
  refine lv_iload_n hx hb dL_law_828 rfl (lv_at hl 3 rfl) ?_
  refine lv_iconst (v := nI 4) hx hb dL_law_829 (by decide) ?_
  refine adN (k := i + 4) hx hb rfl dL_law_830 ?_
  refine sldN hx hb hX hbl hbA hS (j := i + 4) (by omega) hL dL_law_831 ?_
  refine lv_aload_n hx hb dL_law_832 rfl (lv_at hl 0 rfl) ?_
  refine lv_iload_n hx hb dL_law_833 rfl (lv_at hl 3 rfl) ?_
  refine lv_iconst (v := nI 5) hx hb dL_law_834 (by decide) ?_
  refine adN (k := i + 5) hx hb rfl dL_law_835 ?_
  refine sldN hx hb hX hbl hbA hS (j := i + 5) (by omega) hL dL_law_836 ?_
  refine call_iP (wc := mW cy h r v A) (wr := XW cy c1 bb ra rb ia ib kd u1) (ws' := fun w_ : MS => XW cy c1 bb ra rb ia ib kd u1 ++ mW cy h r w_.1 w_.2) (va_runV (As := [.int (xs (i + 1)), .int (xs (i + 2)), .int (xs (i + 3)), .int (xs (i + 4)), .int (xs (i + 5))]) (rest := [.int r1]) CF (y_fits l D cy _ h r kd u v A n dr hR (xs (i + 1)) (xs (i + 2)) (xs (i + 3)) (xs (i + 4)) (xs (i + 5))) (cwV 5 hts' gL_law_X12_fits rfl rfl rfl (by decide +kernel) ⟨Nat.le_of_ble_eq_true rfl, Nat.le_of_ble_eq_true rfl⟩) (pre_VP hKN hP hD List.perm_append_comm 0 11 rfl rfl) rfl rfl hl.1 rfl (lv_room (Nat.le_of_ble_eq_true rfl)) dL_law_837 ⟨Nat.le_of_ble_eq_true rfl, Nat.le_of_ble_eq_true rfl⟩) hS hA hP hD List.perm_append_comm (fun _ => List.perm_append_comm) (fun r2 w1 H locs hw2 hP hD hS => ?_)
  refine lv_icmp_eq (tgt := 1135) hx hb dL_law_840 (by decide) (fun _ => ?_) (fun c9 => absurd (e1.trans hw2.1.symm) c9)
  exact kk u1 w1.1 w1.2 n1 dr1 _ _ _ (hw2.2 u1 n1 dr1 hR1) hP hD hS hl
set_option maxHeartbeats 4000000 in
set_option maxRecDepth 100000 in
theorem lc_asleep {p : Program} {e : Env} {s : State} {m : MethodId} {below : List Frame} {meth : Method} {c : Code} {l : Launch} {b L : Nat} {xs : Nat → Int32} {D : va_G} {cy : Nat → ClassId} {h : Nat} {r : Nat → Nat} {c1 : Nat → Nat} {bb : Nat → Nat → Nat} {ra rb ia : Nat → Nat} {ib : Nat → Nat → Nat} {kd : Nat → Nat} {Q : State → Prop} (C0 : lw_At p s m meth c b L xs) (hL : L ≤ 3072) (hKN : KN D (TY cy) s) {i : Nat} (hi : i + 6 ≤ L) {u : XS} {v : Nat → Int32} {A : Nat → Nat → Int32} {n dr : Nat} (hR : RelX kd v A n dr u) {H : Heap} {locs : List Loc} {ls : Array Slot} (hP : va_P D vwCl (XW cy c1 bb ra rb ia ib kd u ++ mW cy h r v A) H) (hD : va_D (AS s) (XW cy c1 bb ra rb ia ib kd u ++ mW cy h r v A)) (hS : va_S (AS s) s.heap H locs) (hl : lv_has ls 4 [(0, .ref b), (1, .ref (c1 0)), (2, .ref h), (3, .int (nI i))]) (kk : ∀ (u : XS) (v : Nat → Int32) (A : Nat → Nat → Int32) (n dr : Nat) (H : Heap) (locs : List Loc) (ls : Array Slot), RelX kd v A n dr u → va_P D vwCl (XW cy c1 bb ra rb ia ib kd u ++ mW cy h r v A) H → va_D (AS s) (XW cy c1 bb ra rb ia ib kd u ++ mW cy h r v A) → va_S (AS s) s.heap H locs → lv_has ls 4 [(0, .ref b), (1, .ref (c1 0)), (2, .ref h), (3, .int (nI i))] → W p l e room_1 s m #[Value.ref b] below meth c H locs 600000 7302250 Q (F0 m 1135 ls [])) : W p l e room_1 s m #[Value.ref b] below meth c H locs 600000 7302250 Q (F0 m 845 ls []) := by
  obtain ⟨hx, hb, hr, hml, hown, hts, hX, hbl, hlocks, hgv⟩ := id C0
  have hts' : ∀ w ∈ wsL_law, w.before #[Value.ref b] s = true := fun w h => hts w (wsL_law_in w h)
  have CF : CallFix p m c cL_law 4 s #[Value.ref b] wsL_law RL := ⟨hx, hb, hml, hown, hts'⟩
  have hA : ∀ q : Nat, s.heap.size ≤ q → AS s q := fun _ h => h
  have hbA : ¬ AS s b := Nat.not_le.mpr hbl
  obtain ⟨fs0, hx0⟩ := XW_0 cy c1 bb ra rb ia ib kd u
  refine lv_aload_n hx hb dL_law_845 rfl (lv_at hl 1 rfl) ?_
  refine lv_aload_n hx hb dL_law_846 rfl (lv_at hl 0 rfl) ?_
  refine lv_iload_n hx hb dL_law_847 rfl (lv_at hl 3 rfl) ?_
  refine lv_iconst (v := nI 1) hx hb dL_law_848 (by decide) ?_
  refine adN (k := i + 1) hx hb rfl dL_law_849 ?_
  refine sldN hx hb hX hbl hbA hS (j := i + 1) (by omega) hL dL_law_850 ?_
  refine lv_aload_n hx hb dL_law_851 rfl (lv_at hl 0 rfl) ?_
  refine lv_iload_n hx hb dL_law_852 rfl (lv_at hl 3 rfl) ?_
  refine lv_iconst (v := nI 2) hx hb dL_law_853 (by decide) ?_
  refine adN (k := i + 2) hx hb rfl dL_law_854 ?_
  refine sldN hx hb hX hbl hbA hS (j := i + 2) (by omega) hL dL_law_855 ?_
  refine lv_aload_n hx hb dL_law_856 rfl (lv_at hl 0 rfl) ?_
  refine lv_iload_n hx hb dL_law_857 rfl (lv_at hl 3 rfl) ?_
  refine lv_iconst (v := nI 3) hx hb dL_law_858 (by decide) ?_
  refine adN (k := i + 3) hx hb rfl dL_law_859 ?_
  refine sldN hx hb hX hbl hbA hS (j := i + 3) (by omega) hL dL_law_860 ?_
  refine lv_aload_n hx hb dL_law_861 rfl (lv_at hl 0 rfl) ?_
  refine lv_iload_n hx hb dL_law_862 rfl (lv_at hl 3 rfl) ?_
  refine lv_iconst (v := nI 4) hx hb dL_law_863 (by decide) ?_
  refine adN (k := i + 4) hx hb rfl dL_law_864 ?_
  refine sldN hx hb hX hbl hbA hS (j := i + 4) (by omega) hL dL_law_865 ?_
  refine call_iP (wc := XW cy c1 bb ra rb ia ib kd u) (wr := mW cy h r v A) (ws' := fun u_ : XS => XW cy c1 bb ra rb ia ib kd u_ ++ mW cy h r v A) (va_runV (As := [.int (xs (i + 1)), .int (xs (i + 2)), .int (xs (i + 3)), .int (xs (i + 4))]) (rest := []) CF (x_asleep l D cy _ c1 bb ra rb ia ib kd u v A n dr hR (xs (i + 1)) (xs (i + 2)) (xs (i + 3)) (xs (i + 4))) (cwV 4 hts' gL_law_X11_asleep rfl rfl rfl (by decide +kernel) ⟨Nat.le_of_ble_eq_true rfl, Nat.le_of_ble_eq_true rfl⟩) (pre_VP hKN hP hD (List.Perm.refl _) 0 10 rfl hx0) rfl rfl hl.1 rfl (lv_room (Nat.le_of_ble_eq_true rfl)) dL_law_866 ⟨Nat.le_of_ble_eq_true rfl, Nat.le_of_ble_eq_true rfl⟩) hS hA hP hD (List.Perm.refl _) (fun _ => List.Perm.refl _) (fun r1 u1 H locs hw hP hD hS => ?_)
  obtain ⟨e1, n1, dr1, hR1⟩ := hw
  refine lv_aload_n hx hb dL_law_869 rfl (lv_at hl 2 rfl) ?_
  refine lv_aload_n hx hb dL_law_870 rfl (lv_at hl 0 rfl) ?_
  refine lv_iload_n hx hb dL_law_871 rfl (lv_at hl 3 rfl) ?_
  refine lv_iconst (v := nI 1) hx hb dL_law_872 (by decide) ?_
  refine adN (k := i + 1) hx hb rfl dL_law_873 ?_
  refine sldN hx hb hX hbl hbA hS (j := i + 1) (by omega) hL dL_law_874 ?_
  refine lv_aload_n hx hb dL_law_875 rfl (lv_at hl 0 rfl) ?_
  refine lv_iload_n hx hb dL_law_876 rfl (lv_at hl 3 rfl) ?_
  refine lv_iconst (v := nI 2) hx hb dL_law_877 (by decide) ?_
  refine adN (k := i + 2) hx hb rfl dL_law_878 ?_
  refine sldN hx hb hX hbl hbA hS (j := i + 2) (by omega) hL dL_law_879 ?_
  refine lv_aload_n hx hb dL_law_880 rfl (lv_at hl 0 rfl) ?_
  refine lv_iload_n hx hb dL_law_881 rfl (lv_at hl 3 rfl) ?_
  refine lv_iconst (v := nI 3) hx hb dL_law_882 (by decide) ?_
  refine adN (k := i + 3) hx hb rfl dL_law_883 ?_
  refine sldN hx hb hX hbl hbA hS (j := i + 3) (by omega) hL dL_law_884 ?_
  refine lv_aload_n hx hb dL_law_885 rfl (lv_at hl 0 rfl) ?_
  refine lv_iload_n hx hb dL_law_886 rfl (lv_at hl 3 rfl) ?_
  refine lv_iconst (v := nI 4) hx hb dL_law_887 (by decide) ?_
  refine adN (k := i + 4) hx hb rfl dL_law_888 ?_
  refine sldN hx hb hX hbl hbA hS (j := i + 4) (by omega) hL dL_law_889 ?_
  refine call_iP (wc := mW cy h r v A) (wr := XW cy c1 bb ra rb ia ib kd u1) (ws' := fun w_ : MS => XW cy c1 bb ra rb ia ib kd u1 ++ mW cy h r w_.1 w_.2) (va_runV (As := [.int (xs (i + 1)), .int (xs (i + 2)), .int (xs (i + 3)), .int (xs (i + 4))]) (rest := [.int r1]) CF (y_asleep l D cy _ h r kd u v A n dr hR (xs (i + 1)) (xs (i + 2)) (xs (i + 3)) (xs (i + 4))) (cwV 4 hts' gL_law_X12_asleep rfl rfl rfl (by decide +kernel) ⟨Nat.le_of_ble_eq_true rfl, Nat.le_of_ble_eq_true rfl⟩) (pre_VP hKN hP hD List.perm_append_comm 0 11 rfl rfl) rfl rfl hl.1 rfl (lv_room (Nat.le_of_ble_eq_true rfl)) dL_law_890 ⟨Nat.le_of_ble_eq_true rfl, Nat.le_of_ble_eq_true rfl⟩) hS hA hP hD List.perm_append_comm (fun _ => List.perm_append_comm) (fun r2 w1 H locs hw2 hP hD hS => ?_)
  refine lv_icmp_eq (tgt := 1135) hx hb dL_law_893 (by decide) (fun _ => ?_) (fun c9 => absurd (e1.trans hw2.1.symm) c9)
  exact kk u1 w1.1 w1.2 n1 dr1 _ _ _ (hw2.2 u1 n1 dr1 hR1) hP hD hS hl
set_option maxHeartbeats 4000000 in
set_option maxRecDepth 100000 in
theorem lc_drawn {p : Program} {e : Env} {s : State} {m : MethodId} {below : List Frame} {meth : Method} {c : Code} {l : Launch} {b L : Nat} {xs : Nat → Int32} {D : va_G} {cy : Nat → ClassId} {h : Nat} {r : Nat → Nat} {c1 : Nat → Nat} {bb : Nat → Nat → Nat} {ra rb ia : Nat → Nat} {ib : Nat → Nat → Nat} {kd : Nat → Nat} {Q : State → Prop} (C0 : lw_At p s m meth c b L xs) (hL : L ≤ 3072) (hKN : KN D (TY cy) s) {i : Nat} (hi : i + 6 ≤ L) {u : XS} {v : Nat → Int32} {A : Nat → Nat → Int32} {n dr : Nat} (hR : RelX kd v A n dr u) {H : Heap} {locs : List Loc} {ls : Array Slot} (hP : va_P D vwCl (XW cy c1 bb ra rb ia ib kd u ++ mW cy h r v A) H) (hD : va_D (AS s) (XW cy c1 bb ra rb ia ib kd u ++ mW cy h r v A)) (hS : va_S (AS s) s.heap H locs) (hl : lv_has ls 4 [(0, .ref b), (1, .ref (c1 0)), (2, .ref h), (3, .int (nI i))]) (kk : ∀ (u : XS) (v : Nat → Int32) (A : Nat → Nat → Int32) (n dr : Nat) (H : Heap) (locs : List Loc) (ls : Array Slot), RelX kd v A n dr u → va_P D vwCl (XW cy c1 bb ra rb ia ib kd u ++ mW cy h r v A) H → va_D (AS s) (XW cy c1 bb ra rb ia ib kd u ++ mW cy h r v A) → va_S (AS s) s.heap H locs → lv_has ls 4 [(0, .ref b), (1, .ref (c1 0)), (2, .ref h), (3, .int (nI i))] → W p l e room_1 s m #[Value.ref b] below meth c H locs 600000 7302250 Q (F0 m 1135 ls [])) : W p l e room_1 s m #[Value.ref b] below meth c H locs 600000 7302250 Q (F0 m 898 ls []) := by
  obtain ⟨hx, hb, hr, hml, hown, hts, hX, hbl, hlocks, hgv⟩ := id C0
  have hts' : ∀ w ∈ wsL_law, w.before #[Value.ref b] s = true := fun w h => hts w (wsL_law_in w h)
  have CF : CallFix p m c cL_law 4 s #[Value.ref b] wsL_law RL := ⟨hx, hb, hml, hown, hts'⟩
  have hA : ∀ q : Nat, s.heap.size ≤ q → AS s q := fun _ h => h
  have hbA : ¬ AS s b := Nat.not_le.mpr hbl
  obtain ⟨fs0, hx0⟩ := XW_0 cy c1 bb ra rb ia ib kd u
  refine lv_aload_n hx hb dL_law_898 rfl (lv_at hl 1 rfl) ?_
  refine lv_aload_n hx hb dL_law_899 rfl (lv_at hl 0 rfl) ?_
  refine lv_iload_n hx hb dL_law_900 rfl (lv_at hl 3 rfl) ?_
  refine lv_iconst (v := nI 1) hx hb dL_law_901 (by decide) ?_
  refine adN (k := i + 1) hx hb rfl dL_law_902 ?_
  refine sldN hx hb hX hbl hbA hS (j := i + 1) (by omega) hL dL_law_903 ?_
  refine lv_aload_n hx hb dL_law_904 rfl (lv_at hl 0 rfl) ?_
  refine lv_iload_n hx hb dL_law_905 rfl (lv_at hl 3 rfl) ?_
  refine lv_iconst (v := nI 2) hx hb dL_law_906 (by decide) ?_
  refine adN (k := i + 2) hx hb rfl dL_law_907 ?_
  refine sldN hx hb hX hbl hbA hS (j := i + 2) (by omega) hL dL_law_908 ?_
  refine lv_aload_n hx hb dL_law_909 rfl (lv_at hl 0 rfl) ?_
  refine lv_iload_n hx hb dL_law_910 rfl (lv_at hl 3 rfl) ?_
  refine lv_iconst (v := nI 3) hx hb dL_law_911 (by decide) ?_
  refine adN (k := i + 3) hx hb rfl dL_law_912 ?_
  refine sldN hx hb hX hbl hbA hS (j := i + 3) (by omega) hL dL_law_913 ?_
  refine call_iP (wc := XW cy c1 bb ra rb ia ib kd u) (wr := mW cy h r v A) (ws' := fun u_ : XS => XW cy c1 bb ra rb ia ib kd u_ ++ mW cy h r v A) (va_runV (As := [.int (xs (i + 1)), .int (xs (i + 2)), .int (xs (i + 3))]) (rest := []) CF (x_drawn l D cy _ c1 bb ra rb ia ib kd u v A n dr hR (xs (i + 1)) (xs (i + 2)) (xs (i + 3))) (cwV 3 hts' gL_law_X11_drawn rfl rfl rfl (by decide +kernel) ⟨Nat.le_of_ble_eq_true rfl, Nat.le_of_ble_eq_true rfl⟩) (pre_VP hKN hP hD (List.Perm.refl _) 0 10 rfl hx0) rfl rfl hl.1 rfl (lv_room (Nat.le_of_ble_eq_true rfl)) dL_law_914 ⟨Nat.le_of_ble_eq_true rfl, Nat.le_of_ble_eq_true rfl⟩) hS hA hP hD (List.Perm.refl _) (fun _ => List.Perm.refl _) (fun r1 u1 H locs hw hP hD hS => ?_)
  obtain ⟨e1, n1, dr1, hR1⟩ := hw
  refine lv_aload_n hx hb dL_law_917 rfl (lv_at hl 2 rfl) ?_
  refine lv_aload_n hx hb dL_law_918 rfl (lv_at hl 0 rfl) ?_
  refine lv_iload_n hx hb dL_law_919 rfl (lv_at hl 3 rfl) ?_
  refine lv_iconst (v := nI 1) hx hb dL_law_920 (by decide) ?_
  refine adN (k := i + 1) hx hb rfl dL_law_921 ?_
  refine sldN hx hb hX hbl hbA hS (j := i + 1) (by omega) hL dL_law_922 ?_
  refine lv_aload_n hx hb dL_law_923 rfl (lv_at hl 0 rfl) ?_
  refine lv_iload_n hx hb dL_law_924 rfl (lv_at hl 3 rfl) ?_
  refine lv_iconst (v := nI 2) hx hb dL_law_925 (by decide) ?_
  refine adN (k := i + 2) hx hb rfl dL_law_926 ?_
  refine sldN hx hb hX hbl hbA hS (j := i + 2) (by omega) hL dL_law_927 ?_
  refine lv_aload_n hx hb dL_law_928 rfl (lv_at hl 0 rfl) ?_
  refine lv_iload_n hx hb dL_law_929 rfl (lv_at hl 3 rfl) ?_
  refine lv_iconst (v := nI 3) hx hb dL_law_930 (by decide) ?_
  refine adN (k := i + 3) hx hb rfl dL_law_931 ?_
  refine sldN hx hb hX hbl hbA hS (j := i + 3) (by omega) hL dL_law_932 ?_
  refine call_iP (wc := mW cy h r v A) (wr := XW cy c1 bb ra rb ia ib kd u1) (ws' := fun w_ : MS => XW cy c1 bb ra rb ia ib kd u1 ++ mW cy h r w_.1 w_.2) (va_runV (As := [.int (xs (i + 1)), .int (xs (i + 2)), .int (xs (i + 3))]) (rest := [.int r1]) CF (y_drawn l D cy _ h r kd u v A n dr hR (xs (i + 1)) (xs (i + 2)) (xs (i + 3))) (cwV 3 hts' gL_law_X12_drawn rfl rfl rfl (by decide +kernel) ⟨Nat.le_of_ble_eq_true rfl, Nat.le_of_ble_eq_true rfl⟩) (pre_VP hKN hP hD List.perm_append_comm 0 11 rfl rfl) rfl rfl hl.1 rfl (lv_room (Nat.le_of_ble_eq_true rfl)) dL_law_933 ⟨Nat.le_of_ble_eq_true rfl, Nat.le_of_ble_eq_true rfl⟩) hS hA hP hD List.perm_append_comm (fun _ => List.perm_append_comm) (fun r2 w1 H locs hw2 hP hD hS => ?_)
  refine lv_icmp_eq (tgt := 1135) hx hb dL_law_936 (by decide) (fun _ => ?_) (fun c9 => absurd (e1.trans hw2.1.symm) c9)
  exact kk u1 w1.1 w1.2 n1 dr1 _ _ _ (hw2.2 u1 n1 dr1 hR1) hP hD hS hl
set_option maxHeartbeats 4000000 in
set_option maxRecDepth 100000 in
theorem lc_image {p : Program} {e : Env} {s : State} {m : MethodId} {below : List Frame} {meth : Method} {c : Code} {l : Launch} {b L : Nat} {xs : Nat → Int32} {D : va_G} {cy : Nat → ClassId} {h : Nat} {r : Nat → Nat} {c1 : Nat → Nat} {bb : Nat → Nat → Nat} {ra rb ia : Nat → Nat} {ib : Nat → Nat → Nat} {kd : Nat → Nat} {Q : State → Prop} (C0 : lw_At p s m meth c b L xs) (hL : L ≤ 3072) (hKN : KN D (TY cy) s) {i : Nat} (hi : i + 6 ≤ L) {u : XS} {v : Nat → Int32} {A : Nat → Nat → Int32} {n dr : Nat} (hR : RelX kd v A n dr u) {H : Heap} {locs : List Loc} {ls : Array Slot} (hP : va_P D vwCl (XW cy c1 bb ra rb ia ib kd u ++ mW cy h r v A) H) (hD : va_D (AS s) (XW cy c1 bb ra rb ia ib kd u ++ mW cy h r v A)) (hS : va_S (AS s) s.heap H locs) (hl : lv_has ls 4 [(0, .ref b), (1, .ref (c1 0)), (2, .ref h), (3, .int (nI i))]) (kk : ∀ (u : XS) (v : Nat → Int32) (A : Nat → Nat → Int32) (n dr : Nat) (H : Heap) (locs : List Loc) (ls : Array Slot), RelX kd v A n dr u → va_P D vwCl (XW cy c1 bb ra rb ia ib kd u ++ mW cy h r v A) H → va_D (AS s) (XW cy c1 bb ra rb ia ib kd u ++ mW cy h r v A) → va_S (AS s) s.heap H locs → lv_has ls 4 [(0, .ref b), (1, .ref (c1 0)), (2, .ref h), (3, .int (nI i))] → W p l e room_1 s m #[Value.ref b] below meth c H locs 600000 7302250 Q (F0 m 1135 ls [])) : W p l e room_1 s m #[Value.ref b] below meth c H locs 600000 7302250 Q (F0 m 941 ls []) := by
  obtain ⟨hx, hb, hr, hml, hown, hts, hX, hbl, hlocks, hgv⟩ := id C0
  have hts' : ∀ w ∈ wsL_law, w.before #[Value.ref b] s = true := fun w h => hts w (wsL_law_in w h)
  have CF : CallFix p m c cL_law 4 s #[Value.ref b] wsL_law RL := ⟨hx, hb, hml, hown, hts'⟩
  have hA : ∀ q : Nat, s.heap.size ≤ q → AS s q := fun _ h => h
  have hbA : ¬ AS s b := Nat.not_le.mpr hbl
  obtain ⟨fs0, hx0⟩ := XW_0 cy c1 bb ra rb ia ib kd u
  refine lv_aload_n hx hb dL_law_941 rfl (lv_at hl 1 rfl) ?_
  refine lv_aload_n hx hb dL_law_942 rfl (lv_at hl 0 rfl) ?_
  refine lv_iload_n hx hb dL_law_943 rfl (lv_at hl 3 rfl) ?_
  refine lv_iconst (v := nI 1) hx hb dL_law_944 (by decide) ?_
  refine adN (k := i + 1) hx hb rfl dL_law_945 ?_
  refine sldN hx hb hX hbl hbA hS (j := i + 1) (by omega) hL dL_law_946 ?_
  refine call_iP (wc := XW cy c1 bb ra rb ia ib kd u) (wr := mW cy h r v A) (ws' := fun u_ : XS => XW cy c1 bb ra rb ia ib kd u_ ++ mW cy h r v A) (va_runV (As := [.int (xs (i + 1))]) (rest := []) CF (x_image l D cy _ c1 bb ra rb ia ib kd u v A n dr hR (xs (i + 1))) (cwV 1 hts' gL_law_X11_image rfl rfl rfl (by decide +kernel) ⟨Nat.le_of_ble_eq_true rfl, Nat.le_of_ble_eq_true rfl⟩) (pre_VP hKN hP hD (List.Perm.refl _) 0 10 rfl hx0) rfl rfl hl.1 rfl (lv_room (Nat.le_of_ble_eq_true rfl)) dL_law_947 ⟨Nat.le_of_ble_eq_true rfl, Nat.le_of_ble_eq_true rfl⟩) hS hA hP hD (List.Perm.refl _) (fun _ => List.Perm.refl _) (fun r1 u1 H locs hw hP hD hS => ?_)
  obtain ⟨e1, n1, dr1, hR1⟩ := hw
  refine lv_aload_n hx hb dL_law_950 rfl (lv_at hl 2 rfl) ?_
  refine lv_aload_n hx hb dL_law_951 rfl (lv_at hl 0 rfl) ?_
  refine lv_iload_n hx hb dL_law_952 rfl (lv_at hl 3 rfl) ?_
  refine lv_iconst (v := nI 1) hx hb dL_law_953 (by decide) ?_
  refine adN (k := i + 1) hx hb rfl dL_law_954 ?_
  refine sldN hx hb hX hbl hbA hS (j := i + 1) (by omega) hL dL_law_955 ?_
  refine call_iP (wc := mW cy h r v A) (wr := XW cy c1 bb ra rb ia ib kd u1) (ws' := fun w_ : MS => XW cy c1 bb ra rb ia ib kd u1 ++ mW cy h r w_.1 w_.2) (va_runV (As := [.int (xs (i + 1))]) (rest := [.int r1]) CF (y_image l D cy _ h r kd u v A n dr hR (xs (i + 1))) (cwV 1 hts' gL_law_X12_image rfl rfl rfl (by decide +kernel) ⟨Nat.le_of_ble_eq_true rfl, Nat.le_of_ble_eq_true rfl⟩) (pre_VP hKN hP hD List.perm_append_comm 0 11 rfl rfl) rfl rfl hl.1 rfl (lv_room (Nat.le_of_ble_eq_true rfl)) dL_law_956 ⟨Nat.le_of_ble_eq_true rfl, Nat.le_of_ble_eq_true rfl⟩) hS hA hP hD List.perm_append_comm (fun _ => List.perm_append_comm) (fun r2 w1 H locs hw2 hP hD hS => ?_)
  refine lv_icmp_eq (tgt := 1135) hx hb dL_law_959 (by decide) (fun _ => ?_) (fun c9 => absurd (e1.trans hw2.1.symm) c9)
  exact kk u1 w1.1 w1.2 n1 dr1 _ _ _ (hw2.2 u1 n1 dr1 hR1) hP hD hS hl
set_option maxHeartbeats 4000000 in
set_option maxRecDepth 100000 in
theorem lc_restore {p : Program} {e : Env} {s : State} {m : MethodId} {below : List Frame} {meth : Method} {c : Code} {l : Launch} {b L : Nat} {xs : Nat → Int32} {D : va_G} {cy : Nat → ClassId} {h : Nat} {r : Nat → Nat} {c1 : Nat → Nat} {bb : Nat → Nat → Nat} {ra rb ia : Nat → Nat} {ib : Nat → Nat → Nat} {kd : Nat → Nat} {Q : State → Prop} (C0 : lw_At p s m meth c b L xs) (hL : L ≤ 3072) (hKN : KN D (TY cy) s) {i : Nat} (hi : i + 6 ≤ L) {u : XS} {v : Nat → Int32} {A : Nat → Nat → Int32} {n dr : Nat} (hR : RelX kd v A n dr u) {H : Heap} {locs : List Loc} {ls : Array Slot} (hP : va_P D vwCl (XW cy c1 bb ra rb ia ib kd u ++ mW cy h r v A) H) (hD : va_D (AS s) (XW cy c1 bb ra rb ia ib kd u ++ mW cy h r v A)) (hS : va_S (AS s) s.heap H locs) (hl : lv_has ls 4 [(0, .ref b), (1, .ref (c1 0)), (2, .ref h), (3, .int (nI i))]) (kk : ∀ (u : XS) (v : Nat → Int32) (A : Nat → Nat → Int32) (n dr : Nat) (H : Heap) (locs : List Loc) (ls : Array Slot), RelX kd v A n dr u → va_P D vwCl (XW cy c1 bb ra rb ia ib kd u ++ mW cy h r v A) H → va_D (AS s) (XW cy c1 bb ra rb ia ib kd u ++ mW cy h r v A) → va_S (AS s) s.heap H locs → lv_has ls 4 [(0, .ref b), (1, .ref (c1 0)), (2, .ref h), (3, .int (nI i))] → W p l e room_1 s m #[Value.ref b] below meth c H locs 600000 7302250 Q (F0 m 1135 ls [])) : W p l e room_1 s m #[Value.ref b] below meth c H locs 600000 7302250 Q (F0 m 964 ls []) := by
  obtain ⟨hx, hb, hr, hml, hown, hts, hX, hbl, hlocks, hgv⟩ := id C0
  have hts' : ∀ w ∈ wsL_law, w.before #[Value.ref b] s = true := fun w h => hts w (wsL_law_in w h)
  have CF : CallFix p m c cL_law 4 s #[Value.ref b] wsL_law RL := ⟨hx, hb, hml, hown, hts'⟩
  have hA : ∀ q : Nat, s.heap.size ≤ q → AS s q := fun _ h => h
  have hbA : ¬ AS s b := Nat.not_le.mpr hbl
  obtain ⟨fs0, hx0⟩ := XW_0 cy c1 bb ra rb ia ib kd u
  refine lv_aload_n hx hb dL_law_964 rfl (lv_at hl 1 rfl) ?_
  refine lv_aload_n hx hb dL_law_965 rfl (lv_at hl 0 rfl) ?_
  refine lv_iload_n hx hb dL_law_966 rfl (lv_at hl 3 rfl) ?_
  refine lv_iconst (v := nI 1) hx hb dL_law_967 (by decide) ?_
  refine adN (k := i + 1) hx hb rfl dL_law_968 ?_
  refine sldN hx hb hX hbl hbA hS (j := i + 1) (by omega) hL dL_law_969 ?_
  refine call_iP (wc := XW cy c1 bb ra rb ia ib kd u) (wr := mW cy h r v A) (ws' := fun u_ : XS => XW cy c1 bb ra rb ia ib kd u_ ++ mW cy h r v A) (va_runV (As := [.int (xs (i + 1))]) (rest := []) CF (x_restore l D cy _ c1 bb ra rb ia ib kd u v A n dr hR (xs (i + 1))) (cwV 1 hts' gL_law_X11_restore rfl rfl rfl (by decide +kernel) ⟨Nat.le_of_ble_eq_true rfl, Nat.le_of_ble_eq_true rfl⟩) (pre_VP hKN hP hD (List.Perm.refl _) 0 10 rfl hx0) rfl rfl hl.1 rfl (lv_room (Nat.le_of_ble_eq_true rfl)) dL_law_970 ⟨Nat.le_of_ble_eq_true rfl, Nat.le_of_ble_eq_true rfl⟩) hS hA hP hD (List.Perm.refl _) (fun _ => List.Perm.refl _) (fun r1 u1 H locs hw hP hD hS => ?_)
  obtain ⟨e1, n1, dr1, hR1⟩ := hw
  refine lv_aload_n hx hb dL_law_973 rfl (lv_at hl 2 rfl) ?_
  refine lv_aload_n hx hb dL_law_974 rfl (lv_at hl 0 rfl) ?_
  refine lv_iload_n hx hb dL_law_975 rfl (lv_at hl 3 rfl) ?_
  refine lv_iconst (v := nI 1) hx hb dL_law_976 (by decide) ?_
  refine adN (k := i + 1) hx hb rfl dL_law_977 ?_
  refine sldN hx hb hX hbl hbA hS (j := i + 1) (by omega) hL dL_law_978 ?_
  refine call_iP (wc := mW cy h r v A) (wr := XW cy c1 bb ra rb ia ib kd u1) (ws' := fun w_ : MS => XW cy c1 bb ra rb ia ib kd u1 ++ mW cy h r w_.1 w_.2) (va_runV (As := [.int (xs (i + 1))]) (rest := [.int r1]) CF (y_restore l D cy _ h r kd u v A n dr hR (xs (i + 1))) (cwV 1 hts' gL_law_X12_restore rfl rfl rfl (by decide +kernel) ⟨Nat.le_of_ble_eq_true rfl, Nat.le_of_ble_eq_true rfl⟩) (pre_VP hKN hP hD List.perm_append_comm 0 11 rfl rfl) rfl rfl hl.1 rfl (lv_room (Nat.le_of_ble_eq_true rfl)) dL_law_979 ⟨Nat.le_of_ble_eq_true rfl, Nat.le_of_ble_eq_true rfl⟩) hS hA hP hD List.perm_append_comm (fun _ => List.perm_append_comm) (fun r2 w1 H locs hw2 hP hD hS => ?_)
  refine lv_icmp_eq (tgt := 1135) hx hb dL_law_982 (by decide) (fun _ => ?_) (fun c9 => absurd (e1.trans hw2.1.symm) c9)
  exact kk u1 w1.1 w1.2 n1 dr1 _ _ _ (hw2.2 u1 n1 dr1 hR1) hP hD hS hl
set_option maxHeartbeats 4000000 in
set_option maxRecDepth 100000 in
theorem lc_kind {p : Program} {e : Env} {s : State} {m : MethodId} {below : List Frame} {meth : Method} {c : Code} {l : Launch} {b L : Nat} {xs : Nat → Int32} {D : va_G} {cy : Nat → ClassId} {h : Nat} {r : Nat → Nat} {c1 : Nat → Nat} {bb : Nat → Nat → Nat} {ra rb ia : Nat → Nat} {ib : Nat → Nat → Nat} {kd : Nat → Nat} {Q : State → Prop} (C0 : lw_At p s m meth c b L xs) (hL : L ≤ 3072) (hKN : KN D (TY cy) s) {i : Nat} (hi : i + 6 ≤ L) {u : XS} {v : Nat → Int32} {A : Nat → Nat → Int32} {n dr : Nat} (hR : RelX kd v A n dr u) {H : Heap} {locs : List Loc} {ls : Array Slot} (hP : va_P D vwCl (XW cy c1 bb ra rb ia ib kd u ++ mW cy h r v A) H) (hD : va_D (AS s) (XW cy c1 bb ra rb ia ib kd u ++ mW cy h r v A)) (hS : va_S (AS s) s.heap H locs) (hl : lv_has ls 4 [(0, .ref b), (1, .ref (c1 0)), (2, .ref h), (3, .int (nI i))]) (kk : ∀ (u : XS) (v : Nat → Int32) (A : Nat → Nat → Int32) (n dr : Nat) (H : Heap) (locs : List Loc) (ls : Array Slot), RelX kd v A n dr u → va_P D vwCl (XW cy c1 bb ra rb ia ib kd u ++ mW cy h r v A) H → va_D (AS s) (XW cy c1 bb ra rb ia ib kd u ++ mW cy h r v A) → va_S (AS s) s.heap H locs → lv_has ls 4 [(0, .ref b), (1, .ref (c1 0)), (2, .ref h), (3, .int (nI i))] → W p l e room_1 s m #[Value.ref b] below meth c H locs 600000 7302250 Q (F0 m 1135 ls [])) : W p l e room_1 s m #[Value.ref b] below meth c H locs 600000 7302250 Q (F0 m 987 ls []) := by
  obtain ⟨hx, hb, hr, hml, hown, hts, hX, hbl, hlocks, hgv⟩ := id C0
  have hts' : ∀ w ∈ wsL_law, w.before #[Value.ref b] s = true := fun w h => hts w (wsL_law_in w h)
  have CF : CallFix p m c cL_law 4 s #[Value.ref b] wsL_law RL := ⟨hx, hb, hml, hown, hts'⟩
  have hA : ∀ q : Nat, s.heap.size ≤ q → AS s q := fun _ h => h
  have hbA : ¬ AS s b := Nat.not_le.mpr hbl
  obtain ⟨fs0, hx0⟩ := XW_0 cy c1 bb ra rb ia ib kd u
  refine lv_aload_n hx hb dL_law_987 rfl (lv_at hl 1 rfl) ?_
  refine lv_aload_n hx hb dL_law_988 rfl (lv_at hl 0 rfl) ?_
  refine lv_iload_n hx hb dL_law_989 rfl (lv_at hl 3 rfl) ?_
  refine lv_iconst (v := nI 1) hx hb dL_law_990 (by decide) ?_
  refine adN (k := i + 1) hx hb rfl dL_law_991 ?_
  refine sldN hx hb hX hbl hbA hS (j := i + 1) (by omega) hL dL_law_992 ?_
  refine call_iP (wc := XW cy c1 bb ra rb ia ib kd u) (wr := mW cy h r v A) (ws' := fun u_ : XS => XW cy c1 bb ra rb ia ib kd u_ ++ mW cy h r v A) (va_runV (As := [.int (xs (i + 1))]) (rest := []) CF (x_kind l D cy _ c1 bb ra rb ia ib kd u v A n dr hR (xs (i + 1))) (cwV 1 hts' gL_law_X11_kind rfl rfl rfl (by decide +kernel) ⟨Nat.le_of_ble_eq_true rfl, Nat.le_of_ble_eq_true rfl⟩) (pre_VP hKN hP hD (List.Perm.refl _) 0 10 rfl hx0) rfl rfl hl.1 rfl (lv_room (Nat.le_of_ble_eq_true rfl)) dL_law_993 ⟨Nat.le_of_ble_eq_true rfl, Nat.le_of_ble_eq_true rfl⟩) hS hA hP hD (List.Perm.refl _) (fun _ => List.Perm.refl _) (fun r1 u1 H locs hw hP hD hS => ?_)
  obtain ⟨e1, n1, dr1, hR1⟩ := hw
  refine lv_aload_n hx hb dL_law_996 rfl (lv_at hl 2 rfl) ?_
  refine lv_aload_n hx hb dL_law_997 rfl (lv_at hl 0 rfl) ?_
  refine lv_iload_n hx hb dL_law_998 rfl (lv_at hl 3 rfl) ?_
  refine lv_iconst (v := nI 1) hx hb dL_law_999 (by decide) ?_
  refine adN (k := i + 1) hx hb rfl dL_law_1000 ?_
  refine sldN hx hb hX hbl hbA hS (j := i + 1) (by omega) hL dL_law_1001 ?_
  refine call_iP (wc := mW cy h r v A) (wr := XW cy c1 bb ra rb ia ib kd u1) (ws' := fun w_ : MS => XW cy c1 bb ra rb ia ib kd u1 ++ mW cy h r w_.1 w_.2) (va_runV (As := [.int (xs (i + 1))]) (rest := [.int r1]) CF (y_kind l D cy _ h r kd u v A n dr hR (xs (i + 1))) (cwV 1 hts' gL_law_X12_kind rfl rfl rfl (by decide +kernel) ⟨Nat.le_of_ble_eq_true rfl, Nat.le_of_ble_eq_true rfl⟩) (pre_VP hKN hP hD List.perm_append_comm 0 11 rfl rfl) rfl rfl hl.1 rfl (lv_room (Nat.le_of_ble_eq_true rfl)) dL_law_1002 ⟨Nat.le_of_ble_eq_true rfl, Nat.le_of_ble_eq_true rfl⟩) hS hA hP hD List.perm_append_comm (fun _ => List.perm_append_comm) (fun r2 w1 H locs hw2 hP hD hS => ?_)
  refine lv_icmp_eq (tgt := 1135) hx hb dL_law_1005 (by decide) (fun _ => ?_) (fun c9 => absurd (e1.trans hw2.1.symm) c9)
  exact kk u1 w1.1 w1.2 n1 dr1 _ _ _ (hw2.2 u1 n1 dr1 hR1) hP hD hS hl
set_option maxHeartbeats 4000000 in
set_option maxRecDepth 100000 in
theorem lc_as {p : Program} {e : Env} {s : State} {m : MethodId} {below : List Frame} {meth : Method} {c : Code} {l : Launch} {b L : Nat} {xs : Nat → Int32} {D : va_G} {cy : Nat → ClassId} {h : Nat} {r : Nat → Nat} {c1 : Nat → Nat} {bb : Nat → Nat → Nat} {ra rb ia : Nat → Nat} {ib : Nat → Nat → Nat} {kd : Nat → Nat} {Q : State → Prop} (C0 : lw_At p s m meth c b L xs) (hL : L ≤ 3072) (hKN : KN D (TY cy) s) {i : Nat} (hi : i + 6 ≤ L) {u : XS} {v : Nat → Int32} {A : Nat → Nat → Int32} {n dr : Nat} (hR : RelX kd v A n dr u) {H : Heap} {locs : List Loc} {ls : Array Slot} (hP : va_P D vwCl (XW cy c1 bb ra rb ia ib kd u ++ mW cy h r v A) H) (hD : va_D (AS s) (XW cy c1 bb ra rb ia ib kd u ++ mW cy h r v A)) (hS : va_S (AS s) s.heap H locs) (hl : lv_has ls 4 [(0, .ref b), (1, .ref (c1 0)), (2, .ref h), (3, .int (nI i))]) (kk : ∀ (u : XS) (v : Nat → Int32) (A : Nat → Nat → Int32) (n dr : Nat) (H : Heap) (locs : List Loc) (ls : Array Slot), RelX kd v A n dr u → va_P D vwCl (XW cy c1 bb ra rb ia ib kd u ++ mW cy h r v A) H → va_D (AS s) (XW cy c1 bb ra rb ia ib kd u ++ mW cy h r v A) → va_S (AS s) s.heap H locs → lv_has ls 4 [(0, .ref b), (1, .ref (c1 0)), (2, .ref h), (3, .int (nI i))] → W p l e room_1 s m #[Value.ref b] below meth c H locs 600000 7302250 Q (F0 m 1135 ls [])) : W p l e room_1 s m #[Value.ref b] below meth c H locs 600000 7302250 Q (F0 m 1010 ls []) := by
  obtain ⟨hx, hb, hr, hml, hown, hts, hX, hbl, hlocks, hgv⟩ := id C0
  have hts' : ∀ w ∈ wsL_law, w.before #[Value.ref b] s = true := fun w h => hts w (wsL_law_in w h)
  have CF : CallFix p m c cL_law 4 s #[Value.ref b] wsL_law RL := ⟨hx, hb, hml, hown, hts'⟩
  have hA : ∀ q : Nat, s.heap.size ≤ q → AS s q := fun _ h => h
  have hbA : ¬ AS s b := Nat.not_le.mpr hbl
  obtain ⟨fs0, hx0⟩ := XW_0 cy c1 bb ra rb ia ib kd u
  refine lv_aload_n hx hb dL_law_1010 rfl (lv_at hl 1 rfl) ?_
  refine lv_aload_n hx hb dL_law_1011 rfl (lv_at hl 0 rfl) ?_
  refine lv_iload_n hx hb dL_law_1012 rfl (lv_at hl 3 rfl) ?_
  refine lv_iconst (v := nI 1) hx hb dL_law_1013 (by decide) ?_
  refine adN (k := i + 1) hx hb rfl dL_law_1014 ?_
  refine sldN hx hb hX hbl hbA hS (j := i + 1) (by omega) hL dL_law_1015 ?_
  refine lv_aload_n hx hb dL_law_1016 rfl (lv_at hl 0 rfl) ?_
  refine lv_iload_n hx hb dL_law_1017 rfl (lv_at hl 3 rfl) ?_
  refine lv_iconst (v := nI 2) hx hb dL_law_1018 (by decide) ?_
  refine adN (k := i + 2) hx hb rfl dL_law_1019 ?_
  refine sldN hx hb hX hbl hbA hS (j := i + 2) (by omega) hL dL_law_1020 ?_
  refine call_iP (wc := XW cy c1 bb ra rb ia ib kd u) (wr := mW cy h r v A) (ws' := fun u_ : XS => XW cy c1 bb ra rb ia ib kd u_ ++ mW cy h r v A) (va_runV (As := [.int (xs (i + 1)), .int (xs (i + 2))]) (rest := []) CF (x_as l D cy _ c1 bb ra rb ia ib kd u v A n dr hR (xs (i + 1)) (xs (i + 2))) (cwV 2 hts' gL_law_X11_as rfl rfl rfl (by decide +kernel) ⟨Nat.le_of_ble_eq_true rfl, Nat.le_of_ble_eq_true rfl⟩) (pre_VP hKN hP hD (List.Perm.refl _) 0 10 rfl hx0) rfl rfl hl.1 rfl (lv_room (Nat.le_of_ble_eq_true rfl)) dL_law_1021 ⟨Nat.le_of_ble_eq_true rfl, Nat.le_of_ble_eq_true rfl⟩) hS hA hP hD (List.Perm.refl _) (fun _ => List.Perm.refl _) (fun r1 u1 H locs hw hP hD hS => ?_)
  obtain ⟨e1, n1, dr1, hR1⟩ := hw
  refine lv_aload_n hx hb dL_law_1024 rfl (lv_at hl 2 rfl) ?_
  refine lv_aload_n hx hb dL_law_1025 rfl (lv_at hl 0 rfl) ?_
  refine lv_iload_n hx hb dL_law_1026 rfl (lv_at hl 3 rfl) ?_
  refine lv_iconst (v := nI 1) hx hb dL_law_1027 (by decide) ?_
  refine adN (k := i + 1) hx hb rfl dL_law_1028 ?_
  refine sldN hx hb hX hbl hbA hS (j := i + 1) (by omega) hL dL_law_1029 ?_
  refine lv_aload_n hx hb dL_law_1030 rfl (lv_at hl 0 rfl) ?_
  refine lv_iload_n hx hb dL_law_1031 rfl (lv_at hl 3 rfl) ?_
  refine lv_iconst (v := nI 2) hx hb dL_law_1032 (by decide) ?_
  refine adN (k := i + 2) hx hb rfl dL_law_1033 ?_
  refine sldN hx hb hX hbl hbA hS (j := i + 2) (by omega) hL dL_law_1034 ?_
  refine call_iP (wc := mW cy h r v A) (wr := XW cy c1 bb ra rb ia ib kd u1) (ws' := fun w_ : MS => XW cy c1 bb ra rb ia ib kd u1 ++ mW cy h r w_.1 w_.2) (va_runV (As := [.int (xs (i + 1)), .int (xs (i + 2))]) (rest := [.int r1]) CF (y_as l D cy _ h r kd u v A n dr hR (xs (i + 1)) (xs (i + 2))) (cwV 2 hts' gL_law_X12_as rfl rfl rfl (by decide +kernel) ⟨Nat.le_of_ble_eq_true rfl, Nat.le_of_ble_eq_true rfl⟩) (pre_VP hKN hP hD List.perm_append_comm 0 11 rfl rfl) rfl rfl hl.1 rfl (lv_room (Nat.le_of_ble_eq_true rfl)) dL_law_1035 ⟨Nat.le_of_ble_eq_true rfl, Nat.le_of_ble_eq_true rfl⟩) hS hA hP hD List.perm_append_comm (fun _ => List.perm_append_comm) (fun r2 w1 H locs hw2 hP hD hS => ?_)
  refine lv_icmp_eq (tgt := 1135) hx hb dL_law_1038 (by decide) (fun _ => ?_) (fun c9 => absurd (e1.trans hw2.1.symm) c9)
  exact kk u1 w1.1 w1.2 n1 dr1 _ _ _ (hw2.2 u1 n1 dr1 hR1) hP hD hS hl
set_option maxHeartbeats 4000000 in
set_option maxRecDepth 100000 in
theorem lc_ask {p : Program} {e : Env} {s : State} {m : MethodId} {below : List Frame} {meth : Method} {c : Code} {l : Launch} {b L : Nat} {xs : Nat → Int32} {D : va_G} {cy : Nat → ClassId} {h : Nat} {r : Nat → Nat} {c1 : Nat → Nat} {bb : Nat → Nat → Nat} {ra rb ia : Nat → Nat} {ib : Nat → Nat → Nat} {kd : Nat → Nat} {Q : State → Prop} (C0 : lw_At p s m meth c b L xs) (hL : L ≤ 3072) (hKN : KN D (TY cy) s) {i : Nat} (hi : i + 6 ≤ L) {u : XS} {v : Nat → Int32} {A : Nat → Nat → Int32} {n dr : Nat} (hR : RelX kd v A n dr u) {H : Heap} {locs : List Loc} {ls : Array Slot} (hP : va_P D vwCl (XW cy c1 bb ra rb ia ib kd u ++ mW cy h r v A) H) (hD : va_D (AS s) (XW cy c1 bb ra rb ia ib kd u ++ mW cy h r v A)) (hS : va_S (AS s) s.heap H locs) (hl : lv_has ls 4 [(0, .ref b), (1, .ref (c1 0)), (2, .ref h), (3, .int (nI i))]) (kk : ∀ (u : XS) (v : Nat → Int32) (A : Nat → Nat → Int32) (n dr : Nat) (H : Heap) (locs : List Loc) (ls : Array Slot), RelX kd v A n dr u → va_P D vwCl (XW cy c1 bb ra rb ia ib kd u ++ mW cy h r v A) H → va_D (AS s) (XW cy c1 bb ra rb ia ib kd u ++ mW cy h r v A) → va_S (AS s) s.heap H locs → lv_has ls 4 [(0, .ref b), (1, .ref (c1 0)), (2, .ref h), (3, .int (nI i))] → W p l e room_1 s m #[Value.ref b] below meth c H locs 600000 7302250 Q (F0 m 1135 ls [])) : W p l e room_1 s m #[Value.ref b] below meth c H locs 600000 7302250 Q (F0 m 1043 ls []) := by
  obtain ⟨hx, hb, hr, hml, hown, hts, hX, hbl, hlocks, hgv⟩ := id C0
  have hts' : ∀ w ∈ wsL_law, w.before #[Value.ref b] s = true := fun w h => hts w (wsL_law_in w h)
  have CF : CallFix p m c cL_law 4 s #[Value.ref b] wsL_law RL := ⟨hx, hb, hml, hown, hts'⟩
  have hA : ∀ q : Nat, s.heap.size ≤ q → AS s q := fun _ h => h
  have hbA : ¬ AS s b := Nat.not_le.mpr hbl
  obtain ⟨fs0, hx0⟩ := XW_0 cy c1 bb ra rb ia ib kd u
  refine lv_aload_n hx hb dL_law_1043 rfl (lv_at hl 1 rfl) ?_
  refine lv_aload_n hx hb dL_law_1044 rfl (lv_at hl 0 rfl) ?_
  refine lv_iload_n hx hb dL_law_1045 rfl (lv_at hl 3 rfl) ?_
  refine lv_iconst (v := nI 1) hx hb dL_law_1046 (by decide) ?_
  refine adN (k := i + 1) hx hb rfl dL_law_1047 ?_
  refine sldN hx hb hX hbl hbA hS (j := i + 1) (by omega) hL dL_law_1048 ?_
  refine lv_aload_n hx hb dL_law_1049 rfl (lv_at hl 0 rfl) ?_
  refine lv_iload_n hx hb dL_law_1050 rfl (lv_at hl 3 rfl) ?_
  refine lv_iconst (v := nI 2) hx hb dL_law_1051 (by decide) ?_
  refine adN (k := i + 2) hx hb rfl dL_law_1052 ?_
  refine sldN hx hb hX hbl hbA hS (j := i + 2) (by omega) hL dL_law_1053 ?_
  refine call_iP (wc := XW cy c1 bb ra rb ia ib kd u) (wr := mW cy h r v A) (ws' := fun u_ : XS => XW cy c1 bb ra rb ia ib kd u_ ++ mW cy h r v A) (va_runV (As := [.int (xs (i + 1)), .int (xs (i + 2))]) (rest := []) CF (x_ask l D cy _ c1 bb ra rb ia ib kd u v A n dr hR (xs (i + 1)) (xs (i + 2))) (cwV 2 hts' gL_law_X11_ask rfl rfl rfl (by decide +kernel) ⟨Nat.le_of_ble_eq_true rfl, Nat.le_of_ble_eq_true rfl⟩) (pre_VP hKN hP hD (List.Perm.refl _) 0 10 rfl hx0) rfl rfl hl.1 rfl (lv_room (Nat.le_of_ble_eq_true rfl)) dL_law_1054 ⟨Nat.le_of_ble_eq_true rfl, Nat.le_of_ble_eq_true rfl⟩) hS hA hP hD (List.Perm.refl _) (fun _ => List.Perm.refl _) (fun r1 u1 H locs hw hP hD hS => ?_)
  obtain ⟨e1, n1, dr1, hR1⟩ := hw
  refine lv_aload_n hx hb dL_law_1057 rfl (lv_at hl 2 rfl) ?_
  refine lv_aload_n hx hb dL_law_1058 rfl (lv_at hl 0 rfl) ?_
  refine lv_iload_n hx hb dL_law_1059 rfl (lv_at hl 3 rfl) ?_
  refine lv_iconst (v := nI 1) hx hb dL_law_1060 (by decide) ?_
  refine adN (k := i + 1) hx hb rfl dL_law_1061 ?_
  refine sldN hx hb hX hbl hbA hS (j := i + 1) (by omega) hL dL_law_1062 ?_
  refine lv_aload_n hx hb dL_law_1063 rfl (lv_at hl 0 rfl) ?_
  refine lv_iload_n hx hb dL_law_1064 rfl (lv_at hl 3 rfl) ?_
  refine lv_iconst (v := nI 2) hx hb dL_law_1065 (by decide) ?_
  refine adN (k := i + 2) hx hb rfl dL_law_1066 ?_
  refine sldN hx hb hX hbl hbA hS (j := i + 2) (by omega) hL dL_law_1067 ?_
  refine call_iP (wc := mW cy h r v A) (wr := XW cy c1 bb ra rb ia ib kd u1) (ws' := fun w_ : MS => XW cy c1 bb ra rb ia ib kd u1 ++ mW cy h r w_.1 w_.2) (va_runV (As := [.int (xs (i + 1)), .int (xs (i + 2))]) (rest := [.int r1]) CF (y_ask l D cy _ h r kd u v A n dr hR (xs (i + 1)) (xs (i + 2))) (cwV 2 hts' gL_law_X12_ask rfl rfl rfl (by decide +kernel) ⟨Nat.le_of_ble_eq_true rfl, Nat.le_of_ble_eq_true rfl⟩) (pre_VP hKN hP hD List.perm_append_comm 0 11 rfl rfl) rfl rfl hl.1 rfl (lv_room (Nat.le_of_ble_eq_true rfl)) dL_law_1068 ⟨Nat.le_of_ble_eq_true rfl, Nat.le_of_ble_eq_true rfl⟩) hS hA hP hD List.perm_append_comm (fun _ => List.perm_append_comm) (fun r2 w1 H locs hw2 hP hD hS => ?_)
  refine lv_icmp_eq (tgt := 1135) hx hb dL_law_1071 (by decide) (fun _ => ?_) (fun c9 => absurd (e1.trans hw2.1.symm) c9)
  exact kk u1 w1.1 w1.2 n1 dr1 _ _ _ (hw2.2 u1 n1 dr1 hR1) hP hD hS hl
set_option maxHeartbeats 4000000 in
set_option maxRecDepth 100000 in
theorem lc_trace {p : Program} {e : Env} {s : State} {m : MethodId} {below : List Frame} {meth : Method} {c : Code} {l : Launch} {b L : Nat} {xs : Nat → Int32} {D : va_G} {cy : Nat → ClassId} {h : Nat} {r : Nat → Nat} {c1 : Nat → Nat} {bb : Nat → Nat → Nat} {ra rb ia : Nat → Nat} {ib : Nat → Nat → Nat} {kd : Nat → Nat} {Q : State → Prop} (C0 : lw_At p s m meth c b L xs) (hL : L ≤ 3072) (hKN : KN D (TY cy) s) {i : Nat} (hi : i + 6 ≤ L) {u : XS} {v : Nat → Int32} {A : Nat → Nat → Int32} {n dr : Nat} (hR : RelX kd v A n dr u) {H : Heap} {locs : List Loc} {ls : Array Slot} (hP : va_P D vwCl (XW cy c1 bb ra rb ia ib kd u ++ mW cy h r v A) H) (hD : va_D (AS s) (XW cy c1 bb ra rb ia ib kd u ++ mW cy h r v A)) (hS : va_S (AS s) s.heap H locs) (hl : lv_has ls 4 [(0, .ref b), (1, .ref (c1 0)), (2, .ref h), (3, .int (nI i))]) (kk : ∀ (u : XS) (v : Nat → Int32) (A : Nat → Nat → Int32) (n dr : Nat) (H : Heap) (locs : List Loc) (ls : Array Slot), RelX kd v A n dr u → va_P D vwCl (XW cy c1 bb ra rb ia ib kd u ++ mW cy h r v A) H → va_D (AS s) (XW cy c1 bb ra rb ia ib kd u ++ mW cy h r v A) → va_S (AS s) s.heap H locs → lv_has ls 4 [(0, .ref b), (1, .ref (c1 0)), (2, .ref h), (3, .int (nI i))] → W p l e room_1 s m #[Value.ref b] below meth c H locs 600000 7302250 Q (F0 m 1135 ls [])) : W p l e room_1 s m #[Value.ref b] below meth c H locs 600000 7302250 Q (F0 m 1076 ls []) := by
  obtain ⟨hx, hb, hr, hml, hown, hts, hX, hbl, hlocks, hgv⟩ := id C0
  have hts' : ∀ w ∈ wsL_law, w.before #[Value.ref b] s = true := fun w h => hts w (wsL_law_in w h)
  have CF : CallFix p m c cL_law 4 s #[Value.ref b] wsL_law RL := ⟨hx, hb, hml, hown, hts'⟩
  have hA : ∀ q : Nat, s.heap.size ≤ q → AS s q := fun _ h => h
  have hbA : ¬ AS s b := Nat.not_le.mpr hbl
  obtain ⟨fs0, hx0⟩ := XW_0 cy c1 bb ra rb ia ib kd u
  refine lv_aload_n hx hb dL_law_1076 rfl (lv_at hl 1 rfl) ?_
  refine lv_aload_n hx hb dL_law_1077 rfl (lv_at hl 0 rfl) ?_
  refine lv_iload_n hx hb dL_law_1078 rfl (lv_at hl 3 rfl) ?_
  refine lv_iconst (v := nI 1) hx hb dL_law_1079 (by decide) ?_
  refine adN (k := i + 1) hx hb rfl dL_law_1080 ?_
  refine sldN hx hb hX hbl hbA hS (j := i + 1) (by omega) hL dL_law_1081 ?_
  refine call_iP (wc := XW cy c1 bb ra rb ia ib kd u) (wr := mW cy h r v A) (ws' := fun u_ : XS => XW cy c1 bb ra rb ia ib kd u_ ++ mW cy h r v A) (va_runV (As := [.int (xs (i + 1))]) (rest := []) CF (x_trace l D cy _ c1 bb ra rb ia ib kd u v A n dr hR (xs (i + 1))) (cwV 1 hts' gL_law_X11_trace rfl rfl rfl (by decide +kernel) ⟨Nat.le_of_ble_eq_true rfl, Nat.le_of_ble_eq_true rfl⟩) (pre_VP hKN hP hD (List.Perm.refl _) 0 10 rfl hx0) rfl rfl hl.1 rfl (lv_room (Nat.le_of_ble_eq_true rfl)) dL_law_1082 ⟨Nat.le_of_ble_eq_true rfl, Nat.le_of_ble_eq_true rfl⟩) hS hA hP hD (List.Perm.refl _) (fun _ => List.Perm.refl _) (fun r1 u1 H locs hw hP hD hS => ?_)
  obtain ⟨e1, n1, dr1, hR1⟩ := hw
  refine lv_aload_n hx hb dL_law_1085 rfl (lv_at hl 2 rfl) ?_
  refine lv_aload_n hx hb dL_law_1086 rfl (lv_at hl 0 rfl) ?_
  refine lv_iload_n hx hb dL_law_1087 rfl (lv_at hl 3 rfl) ?_
  refine lv_iconst (v := nI 1) hx hb dL_law_1088 (by decide) ?_
  refine adN (k := i + 1) hx hb rfl dL_law_1089 ?_
  refine sldN hx hb hX hbl hbA hS (j := i + 1) (by omega) hL dL_law_1090 ?_
  refine call_iP (wc := mW cy h r v A) (wr := XW cy c1 bb ra rb ia ib kd u1) (ws' := fun w_ : MS => XW cy c1 bb ra rb ia ib kd u1 ++ mW cy h r w_.1 w_.2) (va_runV (As := [.int (xs (i + 1))]) (rest := [.int r1]) CF (y_trace l D cy _ h r kd u v A n dr hR (xs (i + 1))) (cwV 1 hts' gL_law_X12_trace rfl rfl rfl (by decide +kernel) ⟨Nat.le_of_ble_eq_true rfl, Nat.le_of_ble_eq_true rfl⟩) (pre_VP hKN hP hD List.perm_append_comm 0 11 rfl rfl) rfl rfl hl.1 rfl (lv_room (Nat.le_of_ble_eq_true rfl)) dL_law_1091 ⟨Nat.le_of_ble_eq_true rfl, Nat.le_of_ble_eq_true rfl⟩) hS hA hP hD List.perm_append_comm (fun _ => List.perm_append_comm) (fun r2 w1 H locs hw2 hP hD hS => ?_)
  refine lv_icmp_eq (tgt := 1135) hx hb dL_law_1094 (by decide) (fun _ => ?_) (fun c9 => absurd (e1.trans hw2.1.symm) c9)
  exact kk u1 w1.1 w1.2 n1 dr1 _ _ _ (hw2.2 u1 n1 dr1 hR1) hP hD hS hl
set_option maxHeartbeats 4000000 in
set_option maxRecDepth 100000 in
theorem lc_count {p : Program} {e : Env} {s : State} {m : MethodId} {below : List Frame} {meth : Method} {c : Code} {l : Launch} {b L : Nat} {xs : Nat → Int32} {D : va_G} {cy : Nat → ClassId} {h : Nat} {r : Nat → Nat} {c1 : Nat → Nat} {bb : Nat → Nat → Nat} {ra rb ia : Nat → Nat} {ib : Nat → Nat → Nat} {kd : Nat → Nat} {Q : State → Prop} (C0 : lw_At p s m meth c b L xs) (hL : L ≤ 3072) (hKN : KN D (TY cy) s) {i : Nat} (hi : i + 6 ≤ L) {u : XS} {v : Nat → Int32} {A : Nat → Nat → Int32} {n dr : Nat} (hR : RelX kd v A n dr u) {H : Heap} {locs : List Loc} {ls : Array Slot} (hP : va_P D vwCl (XW cy c1 bb ra rb ia ib kd u ++ mW cy h r v A) H) (hD : va_D (AS s) (XW cy c1 bb ra rb ia ib kd u ++ mW cy h r v A)) (hS : va_S (AS s) s.heap H locs) (hl : lv_has ls 4 [(0, .ref b), (1, .ref (c1 0)), (2, .ref h), (3, .int (nI i))]) (kk : ∀ (u : XS) (v : Nat → Int32) (A : Nat → Nat → Int32) (n dr : Nat) (H : Heap) (locs : List Loc) (ls : Array Slot), RelX kd v A n dr u → va_P D vwCl (XW cy c1 bb ra rb ia ib kd u ++ mW cy h r v A) H → va_D (AS s) (XW cy c1 bb ra rb ia ib kd u ++ mW cy h r v A) → va_S (AS s) s.heap H locs → lv_has ls 4 [(0, .ref b), (1, .ref (c1 0)), (2, .ref h), (3, .int (nI i))] → W p l e room_1 s m #[Value.ref b] below meth c H locs 600000 7302250 Q (F0 m 1135 ls [])) : W p l e room_1 s m #[Value.ref b] below meth c H locs 600000 7302250 Q (F0 m 1099 ls []) := by
  obtain ⟨hx, hb, hr, hml, hown, hts, hX, hbl, hlocks, hgv⟩ := id C0
  have hts' : ∀ w ∈ wsL_law, w.before #[Value.ref b] s = true := fun w h => hts w (wsL_law_in w h)
  have CF : CallFix p m c cL_law 4 s #[Value.ref b] wsL_law RL := ⟨hx, hb, hml, hown, hts'⟩
  have hA : ∀ q : Nat, s.heap.size ≤ q → AS s q := fun _ h => h
  have hbA : ¬ AS s b := Nat.not_le.mpr hbl
  obtain ⟨fs0, hx0⟩ := XW_0 cy c1 bb ra rb ia ib kd u
  refine lv_aload_n hx hb dL_law_1099 rfl (lv_at hl 1 rfl) ?_
  refine lv_aload_n hx hb dL_law_1100 rfl (lv_at hl 0 rfl) ?_
  refine lv_iload_n hx hb dL_law_1101 rfl (lv_at hl 3 rfl) ?_
  refine lv_iconst (v := nI 1) hx hb dL_law_1102 (by decide) ?_
  refine adN (k := i + 1) hx hb rfl dL_law_1103 ?_
  refine sldN hx hb hX hbl hbA hS (j := i + 1) (by omega) hL dL_law_1104 ?_
  refine call_iP (wc := XW cy c1 bb ra rb ia ib kd u) (wr := mW cy h r v A) (ws' := fun u_ : XS => XW cy c1 bb ra rb ia ib kd u_ ++ mW cy h r v A) (va_runV (As := [.int (xs (i + 1))]) (rest := []) CF (x_count l D cy _ c1 bb ra rb ia ib kd u v A n dr hR (xs (i + 1))) (cwV 1 hts' gL_law_X11_count rfl rfl rfl (by decide +kernel) ⟨Nat.le_of_ble_eq_true rfl, Nat.le_of_ble_eq_true rfl⟩) (pre_VP hKN hP hD (List.Perm.refl _) 0 10 rfl hx0) rfl rfl hl.1 rfl (lv_room (Nat.le_of_ble_eq_true rfl)) dL_law_1105 ⟨Nat.le_of_ble_eq_true rfl, Nat.le_of_ble_eq_true rfl⟩) hS hA hP hD (List.Perm.refl _) (fun _ => List.Perm.refl _) (fun r1 u1 H locs hw hP hD hS => ?_)
  obtain ⟨e1, n1, dr1, hR1⟩ := hw
  refine lv_aload_n hx hb dL_law_1108 rfl (lv_at hl 2 rfl) ?_
  refine lv_aload_n hx hb dL_law_1109 rfl (lv_at hl 0 rfl) ?_
  refine lv_iload_n hx hb dL_law_1110 rfl (lv_at hl 3 rfl) ?_
  refine lv_iconst (v := nI 1) hx hb dL_law_1111 (by decide) ?_
  refine adN (k := i + 1) hx hb rfl dL_law_1112 ?_
  refine sldN hx hb hX hbl hbA hS (j := i + 1) (by omega) hL dL_law_1113 ?_
  refine call_iP (wc := mW cy h r v A) (wr := XW cy c1 bb ra rb ia ib kd u1) (ws' := fun w_ : MS => XW cy c1 bb ra rb ia ib kd u1 ++ mW cy h r w_.1 w_.2) (va_runV (As := [.int (xs (i + 1))]) (rest := [.int r1]) CF (y_count l D cy _ h r kd u v A n dr hR (xs (i + 1))) (cwV 1 hts' gL_law_X12_count rfl rfl rfl (by decide +kernel) ⟨Nat.le_of_ble_eq_true rfl, Nat.le_of_ble_eq_true rfl⟩) (pre_VP hKN hP hD List.perm_append_comm 0 11 rfl rfl) rfl rfl hl.1 rfl (lv_room (Nat.le_of_ble_eq_true rfl)) dL_law_1114 ⟨Nat.le_of_ble_eq_true rfl, Nat.le_of_ble_eq_true rfl⟩) hS hA hP hD List.perm_append_comm (fun _ => List.perm_append_comm) (fun r2 w1 H locs hw2 hP hD hS => ?_)
  refine lv_icmp_eq (tgt := 1135) hx hb dL_law_1117 (by decide) (fun _ => ?_) (fun c9 => absurd (e1.trans hw2.1.symm) c9)
  exact kk u1 w1.1 w1.2 n1 dr1 _ _ _ (hw2.2 u1 n1 dr1 hR1) hP hD hS hl
set_option maxHeartbeats 4000000 in
set_option maxRecDepth 100000 in
theorem lc_status {p : Program} {e : Env} {s : State} {m : MethodId} {below : List Frame} {meth : Method} {c : Code} {l : Launch} {b L : Nat} {xs : Nat → Int32} {D : va_G} {cy : Nat → ClassId} {h : Nat} {r : Nat → Nat} {c1 : Nat → Nat} {bb : Nat → Nat → Nat} {ra rb ia : Nat → Nat} {ib : Nat → Nat → Nat} {kd : Nat → Nat} {Q : State → Prop} (C0 : lw_At p s m meth c b L xs) (hL : L ≤ 3072) (hKN : KN D (TY cy) s) {i : Nat} (hi : i + 6 ≤ L) {u : XS} {v : Nat → Int32} {A : Nat → Nat → Int32} {n dr : Nat} (hR : RelX kd v A n dr u) {H : Heap} {locs : List Loc} {ls : Array Slot} (hP : va_P D vwCl (XW cy c1 bb ra rb ia ib kd u ++ mW cy h r v A) H) (hD : va_D (AS s) (XW cy c1 bb ra rb ia ib kd u ++ mW cy h r v A)) (hS : va_S (AS s) s.heap H locs) (hl : lv_has ls 4 [(0, .ref b), (1, .ref (c1 0)), (2, .ref h), (3, .int (nI i))]) (kk : ∀ (u : XS) (v : Nat → Int32) (A : Nat → Nat → Int32) (n dr : Nat) (H : Heap) (locs : List Loc) (ls : Array Slot), RelX kd v A n dr u → va_P D vwCl (XW cy c1 bb ra rb ia ib kd u ++ mW cy h r v A) H → va_D (AS s) (XW cy c1 bb ra rb ia ib kd u ++ mW cy h r v A) → va_S (AS s) s.heap H locs → lv_has ls 4 [(0, .ref b), (1, .ref (c1 0)), (2, .ref h), (3, .int (nI i))] → W p l e room_1 s m #[Value.ref b] below meth c H locs 600000 7302250 Q (F0 m 1135 ls [])) : W p l e room_1 s m #[Value.ref b] below meth c H locs 600000 7302250 Q (F0 m 1122 ls []) := by
  obtain ⟨hx, hb, hr, hml, hown, hts, hX, hbl, hlocks, hgv⟩ := id C0
  have hts' : ∀ w ∈ wsL_law, w.before #[Value.ref b] s = true := fun w h => hts w (wsL_law_in w h)
  have CF : CallFix p m c cL_law 4 s #[Value.ref b] wsL_law RL := ⟨hx, hb, hml, hown, hts'⟩
  have hA : ∀ q : Nat, s.heap.size ≤ q → AS s q := fun _ h => h
  have hbA : ¬ AS s b := Nat.not_le.mpr hbl
  obtain ⟨fs0, hx0⟩ := XW_0 cy c1 bb ra rb ia ib kd u
  refine lv_aload_n hx hb dL_law_1122 rfl (lv_at hl 1 rfl) ?_
  refine call_iP (wc := XW cy c1 bb ra rb ia ib kd u) (wr := mW cy h r v A) (ws' := fun u_ : XS => XW cy c1 bb ra rb ia ib kd u_ ++ mW cy h r v A) (va_runV (As := []) (rest := []) CF (x_status l D cy _ c1 bb ra rb ia ib kd u v A n dr hR ) (cwV 0 hts' gL_law_X11_status rfl rfl rfl (by decide +kernel) ⟨Nat.le_of_ble_eq_true rfl, Nat.le_of_ble_eq_true rfl⟩) (pre_VP hKN hP hD (List.Perm.refl _) 0 10 rfl hx0) rfl rfl hl.1 rfl (lv_room (Nat.le_of_ble_eq_true rfl)) dL_law_1123 ⟨Nat.le_of_ble_eq_true rfl, Nat.le_of_ble_eq_true rfl⟩) hS hA hP hD (List.Perm.refl _) (fun _ => List.Perm.refl _) (fun r1 u1 H locs hw hP hD hS => ?_)
  obtain ⟨e1, n1, dr1, hR1⟩ := hw
  refine lv_aload_n hx hb dL_law_1126 rfl (lv_at hl 2 rfl) ?_
  refine call_iP (wc := mW cy h r v A) (wr := XW cy c1 bb ra rb ia ib kd u1) (ws' := fun w_ : MS => XW cy c1 bb ra rb ia ib kd u1 ++ mW cy h r w_.1 w_.2) (va_runV (As := []) (rest := [.int r1]) CF (y_status l D cy _ h r kd u v A n dr hR ) (cwV 0 hts' gL_law_X12_status rfl rfl rfl (by decide +kernel) ⟨Nat.le_of_ble_eq_true rfl, Nat.le_of_ble_eq_true rfl⟩) (pre_VP hKN hP hD List.perm_append_comm 0 11 rfl rfl) rfl rfl hl.1 rfl (lv_room (Nat.le_of_ble_eq_true rfl)) dL_law_1127 ⟨Nat.le_of_ble_eq_true rfl, Nat.le_of_ble_eq_true rfl⟩) hS hA hP hD List.perm_append_comm (fun _ => List.perm_append_comm) (fun r2 w1 H locs hw2 hP hD hS => ?_)
  refine lv_icmp_eq (tgt := 1135) hx hb dL_law_1130 (by decide) (fun _ => ?_) (fun c9 => absurd (e1.trans hw2.1.symm) c9)
  exact kk u1 w1.1 w1.2 n1 dr1 _ _ _ (hw2.2 u1 n1 dr1 hR1) hP hD hS hl
