/-! the law from its entry -/
theorem ncL_in : ∀ w ∈ ncL, w ∈ lw_tbl := by decide +kernel
theorem ncL_ot : ncL.all (fun w => w.onTables) = true := by decide +kernel
theorem ncP_in : ncP.all (fun q => decide (Cond.not (.castable q.1 q.2) ∈ flatC (Jvm.Cond.and given_1 narrow_1))) = true := by decide +kernel
theorem hiX0 : Cond.instantiable RX0 5 ∈ lw_tbl := by decide +kernel
theorem hiX1 : Cond.instantiable RX1 0 ∈ lw_tbl := by decide +kernel
theorem hiX2 : Cond.instantiable RX2 5 ∈ lw_tbl := by decide +kernel
theorem hiX3 : Cond.instantiable RX3 0 ∈ lw_tbl := by decide +kernel
theorem hiX5 : Cond.instantiable RX5 0 ∈ lw_tbl := by decide +kernel
theorem hiX6 : Cond.instantiable RX6 10 ∈ lw_tbl := by decide +kernel
theorem hiX7 : Cond.instantiable RX7 0 ∈ lw_tbl := by decide +kernel
theorem hiX8 : Cond.instantiable RX8 3 ∈ lw_tbl := by decide +kernel
theorem hiX9 : Cond.instantiable RX9 8 ∈ lw_tbl := by decide +kernel
theorem hiX10 : Cond.instantiable RX10 0 ∈ lw_tbl := by decide +kernel
theorem hiX11 : Cond.instantiable RX11 11 ∈ lw_tbl := by decide +kernel
theorem hiX12 : Cond.instantiable RX12 24 ∈ lw_tbl := by decide +kernel
theorem in_ha0 : Cond.arrayClass .int ∈ lw_tbl := by decide +kernel
theorem in_ha1 : Cond.arrayClass .boolean ∈ lw_tbl := by decide +kernel
theorem in_ha2 : Cond.arrayOver (.object "DrawerCards$Kind") ∈ lw_tbl := by decide +kernel
theorem in_ha3 : Cond.arrayOver (.object "DrawerCards$Row") ∈ lw_tbl := by decide +kernel
theorem in_ha4 : Cond.arrayOver (.object "DrawerCards$Shelf") ∈ lw_tbl := by decide +kernel
set_option maxHeartbeats 4000000 in
theorem law_known {s : State} {args : Array Value} (hts : ∀ w ∈ lw_tbl, w.before args s = true) (hgv : (Jvm.Cond.and given_1 narrow_1).before args s = true) : ∃ (D : va_G) (cy : Nat → ClassId), KC D (TY cy) s := by
  obtain ⟨c0, i0, k0⟩ := u_known (C := RX0) (T := TX0) (N := 5) (n := 5) hts inX0 (hts _ hiX0)
  obtain ⟨c1, i1, k1⟩ := u_known (C := RX1) (T := TX1) (N := 0) (n := 0) hts inX1 (hts _ hiX1)
  obtain ⟨c2, i2, k2⟩ := u_known (C := RX2) (T := TX2) (N := 5) (n := 5) hts inX2 (hts _ hiX2)
  obtain ⟨c3, i3, k3⟩ := u_known (C := RX3) (T := TX3) (N := 0) (n := 0) hts inX3 (hts _ hiX3)
  obtain ⟨c4, i4, k4⟩ := u_known (C := RX5) (T := TX5) (N := 0) (n := 0) hts inX5 (hts _ hiX5)
  obtain ⟨c5, i5, k5⟩ := u_known (C := RX6) (T := TX6) (N := 10) (n := 10) hts inX6 (hts _ hiX6)
  obtain ⟨c6, i6, k6⟩ := u_known (C := RX7) (T := TX7) (N := 0) (n := 0) hts inX7 (hts _ hiX7)
  obtain ⟨c7, i7, k7⟩ := u_known (C := RX8) (T := TX8) (N := 3) (n := 3) hts inX8 (hts _ hiX8)
  obtain ⟨c8, i8, k8⟩ := u_known (C := RX9) (T := TX9) (N := 8) (n := 8) hts inX9 (hts _ hiX9)
  obtain ⟨c9, i9, k9⟩ := u_known (C := RX10) (T := TX10) (N := 0) (n := 0) hts inX10 (hts _ hiX10)
  obtain ⟨c10, i10, k10⟩ := u_known (C := RX11) (T := TX11) (N := 11) (n := 11) hts inX11 (hts _ hiX11)
  obtain ⟨c11, i11, k11⟩ := u_known (C := RX12) (T := TX12) (N := 24) (n := 24) hts inX12 (hts _ hiX12)
  obtain ⟨dC, dI, hKc⟩ : ∃ (dC : Nat → ClassId) (dI : Nat → Nat → Nat), ∀ (k : Nat) (q : vw_C), vwCl[k]? = some q → u_Kn s q.1 q.2.1 q.2.2 (dC k) (dI k) := by
    refine ⟨fun k => [c0, c1, c2, c3, c4, c5, c6, c7, c8, c9, c10, c11].getD k c0, fun k => [i0, i1, i2, i3, i4, i5, i6, i7, i8, i9, i10, i11].getD k i0, ?_⟩
    intro k q hq
    match k, hq with
    | 0, hq => cases hq; exact k0
    | 1, hq => cases hq; exact k1
    | 2, hq => cases hq; exact k2
    | 3, hq => cases hq; exact k3
    | 4, hq => cases hq; exact k4
    | 5, hq => cases hq; exact k5
    | 6, hq => cases hq; exact k6
    | 7, hq => cases hq; exact k7
    | 8, hq => cases hq; exact k8
    | 9, hq => cases hq; exact k9
    | 10, hq => cases hq; exact k10
    | 11, hq => cases hq; exact k11
    | k + 12, hq => simp [vwCl] at hq
  obtain ⟨a0, ka0, co0, f1, f2, f3⟩ := Cond.arrayClass_spec (hts _ in_ha0)
  obtain ⟨a1, ka1, co1, g1, g2, g3⟩ := Cond.arrayClass_spec (hts _ in_ha1)
  obtain ⟨co2, a2, ka2, p1, -, p3, p4, p5⟩ := Cond.arrayOver_spec (hts _ in_ha2)
  obtain ⟨co3, a3, ka3, q1, -, q3, q4, q5⟩ := Cond.arrayOver_spec (hts _ in_ha3)
  obtain ⟨co4, a4, ka4, r1, -, r3, r4, r5⟩ := Cond.arrayOver_spec (hts _ in_ha4)
  obtain ⟨cy, ecy⟩ : ∃ cy : Nat → ClassId, cy = fun j => [a0, a1, a2, a3, a4].getD j a0 := ⟨_, rfl⟩
  have e0 : cy 0 = a0 := by rw [ecy]; rfl
  have e1 : cy 1 = a1 := by rw [ecy]; rfl
  have e2 : cy 2 = a2 := by rw [ecy]; rfl
  have e3 : cy 3 = a3 := by rw [ecy]; rfl
  have e4 : cy 4 = a4 := by rw [ecy]; rfl
  have hK : va_K (dC, dI) vwCl (TY cy) s := by
    refine ⟨hKc, fun k q hq => ?_⟩
    match k, hq with
    | 0, hq => cases hq; rw [e0]; exact ⟨fun n z => ⟨fun k h => (by cases h), ka0, f2, co0, f3⟩, f1⟩
    | 1, hq => cases hq; rw [e1]; exact ⟨fun n z => ⟨fun k h => (by cases h), ka1, g2, co1, g3⟩, g1⟩
    | 2, hq => cases hq; rw [e2]; exact ⟨fun n z => ⟨fun k h => (by cases h), ka2, p3, co2, p4⟩, ka2, co2, p3, p4, p1, p5⟩
    | 3, hq => cases hq; rw [e3]; exact ⟨fun n z => ⟨fun k h => (by cases h), ka3, q3, co3, q4⟩, ka3, co3, q3, q4, q1, q5⟩
    | 4, hq => cases hq; rw [e4]; exact ⟨fun n z => ⟨fun k h => (by cases h), ka4, r3, co4, r4⟩, ka4, co4, r3, r4, r1, r5⟩
    | k + 5, hq => simp [TY] at hq
  exact ⟨(dC, dI), cy, ⟨hK, fun w hw => va_Nw.of (List.all_eq_true.mp ncL_ot w hw) (hts w (ncL_in w hw)), fun q hq => va_Nc.of (flat_of_before _ hgv _ (of_decide_eq_true (List.all_eq_true.mp ncP_in q hq)))⟩, va_AO.of (hts _ in_ha2), va_AO.of (hts _ in_ha3), va_AO.of (hts _ in_ha4)⟩
set_option maxHeartbeats 4000000 in
set_option maxRecDepth 100000 in
theorem whole_start {p : Program} {e : Env} {s : State} {m : MethodId} {below : List Frame} {meth : Method} {c : Code} (l : Launch) {b L : Nat} {xs : Nat → Int32} (hL : L ≤ 3072) (C0 : lw_At p s m meth c b L xs) : W p l e room_1 s m #[Value.ref b] below meth c s.heap [] 0 0 (lw_Z below #[Value.ref b] s) (entryFrame m ([Value.ref b] : List Value).toArray 4) := by
  obtain ⟨hx, hb, hr, hml, hown, hts, hX, hbl, hlocks, hgv⟩ := id C0
  have hts' : ∀ w ∈ wsL_law, w.before #[Value.ref b] s = true := fun w h => hts w (wsL_law_in w h)
  have CF : CallFix p m c cL_law 4 s #[Value.ref b] wsL_law RL := ⟨hx, hb, hml, hown, hts'⟩
  have hA : ∀ q : Nat, s.heap.size ≤ q → AS s q := fun _ h => h
  obtain ⟨D, cy, hKC⟩ := law_known hts hgv
  have hKN := hKC.1
  have hK := hKN.1
  have hS : va_S (AS s) s.heap s.heap [] := va_S.rf
  have hP : va_P D vwCl [] s.heap := fun k q h => by simp at h
  have hD : va_D (AS s) [] := ⟨fun i j p q h => by simp at h, fun k q h => by simp at h⟩
  have hl := lv_entry ([.ref b]) (n := 4) (Nat.le_of_ble_eq_true rfl)
  rw [lg_entry_eq]
  generalize (lg_sl ([.ref b]) ++ List.replicate (4 - (lg_sl ([.ref b])).length) Slot.unset).toArray = ls at hl ⊢
  have hl : lv_has ls 4 [(0, .ref b)] := hl
  refine va_new (ci := 10) (fs := [.null, .null, .null, .null, .null, .null, .null, .null, .int (nI 0), .int (nI 0), .int (nI 0)]) (C := RX11) (T := TX11) (N := 11) hx hb hts inX11 tyX11 tyX11_ok hown (hts' (.classLink RL 7 RX11) (by decide +kernel)) (hts _ hiX11) (hts' (.initialized RX11) (by decide +kernel)) hK hP hD hS hA rfl (fun j hj => by rcases (show j = 0 ∨ j = 1 ∨ j = 2 ∨ j = 3 ∨ j = 4 ∨ j = 5 ∨ j = 6 ∨ j = 7 ∨ j = 8 ∨ j = 9 ∨ j = 10 by omega) with rfl | rfl | rfl | rfl | rfl | rfl | rfl | rfl | rfl | rfl | rfl <;> rfl) (by show _ ≤ 600000; omega) (by show _ ≤ 7302250; omega) dL_law_0 (fun q0 H hP hD hS => ?_)
  have hP : va_P D vwCl [(q0, .inr (10, [.null, .null, .null, .null, .null, .null, .null, .null, .int (nI 0), .int (nI 0), .int (nI 0)]))] H := hP
  have hD : va_D (AS s) [(q0, .inr (10, [.null, .null, .null, .null, .null, .null, .null, .null, .int (nI 0), .int (nI 0), .int (nI 0)]))] := hD
  refine lv_dup hx hb dL_law_3 rfl ?_
  refine call_cP (wc := [(q0, .inr (10, [.null, .null, .null, .null, .null, .null, .null, .null, .int (nI 0), .int (nI 0), .int (nI 0)]))]) (wr := []) (ws' := fun u : (Nat → Nat) × (Nat → Nat → Nat) × (Nat → Nat) × (Nat → Nat) × (Nat → Nat) × (Nat → Nat → Nat) × (Nat → Nat) × (Nat → Nat) × (Nat → Nat → Nat) => XW cy u.1 u.2.1 u.2.2.1 u.2.2.2.1 u.2.2.2.2.1 u.2.2.2.2.2.1 u.2.2.2.2.2.2.1 (u00 u.2.2.2.2.2.2.2.1 u.2.2.2.2.2.2.2.2) ++ ([] : va_W)) (va_runI (As := []) (rest := [.ref q0]) CF (k_X11_init l D cy _ q0) (cwI 0 hts' gL_law_X11_init rfl rfl rfl (hts' (.initialized RX11) (by decide +kernel)) (hts' (.methodLink RL 9 yX11_init) (by decide +kernel)) (hts' (.instanceMethod yX11_init) (by decide +kernel)) rfl (by decide +kernel) ⟨Nat.le_of_ble_eq_true rfl, Nat.le_of_ble_eq_true rfl⟩) (pre_CP hKC hP hD (perm_nil _)) rfl rfl hl.1 rfl (lv_room (Nat.le_of_ble_eq_true rfl)) dL_law_4 ⟨(by show _ ≤ 600000; omega), (by show _ ≤ 7302250; omega)⟩) hS hA hP hD (perm_nil _) (fun _ => List.Perm.refl _) (fun u H locs hw hP hD hS => ?_)
  obtain ⟨c1, bb, ra, rb, ia, ib, kd, pa, pb⟩ := u
  have hP9 : va_P D vwCl (XW cy c1 bb ra rb ia ib kd (u00 pa pb) ++ []) H := hP
  have hD9 : va_D (AS s) (XW cy c1 bb ra rb ia ib kd (u00 pa pb) ++ []) := hD
  have hw : c1 0 = q0 := hw
  subst hw
  have hP : va_P D vwCl (XW cy c1 bb ra rb ia ib kd (u00 pa pb) ++ []) H := hP9
  have hD : va_D (AS s) (XW cy c1 bb ra rb ia ib kd (u00 pa pb) ++ []) := hD9
  refine lv_astore_n (lv' := [(1, .ref (c1 0)), (0, .ref b)]) hx hb dL_law_7 rfl hl (by decide) rfl (fun ls hl => ?_)
  refine va_new (ci := 11) (fs := [.null, .null, .null, .int (nI 0), .int (nI 0), .null, .int (nI 0), .int (nI 0), .int (nI 0), .int (nI 0), .int (nI 0), .int (nI 0), .null, .null, .null, .null, .null, .null, .null, .int (nI 0), .null, .int (nI 0), .null, .null]) (C := RX12) (T := TX12) (N := 24) hx hb hts inX12 tyX12 tyX12_ok hown (hts' (.classLink RL 10 RX12) (by decide +kernel)) (hts _ hiX12) (hts' (.initialized RX12) (by decide +kernel)) hK hP hD hS hA rfl (fun j hj => by rcases (show j = 0 ∨ j = 1 ∨ j = 2 ∨ j = 3 ∨ j = 4 ∨ j = 5 ∨ j = 6 ∨ j = 7 ∨ j = 8 ∨ j = 9 ∨ j = 10 ∨ j = 11 ∨ j = 12 ∨ j = 13 ∨ j = 14 ∨ j = 15 ∨ j = 16 ∨ j = 17 ∨ j = 18 ∨ j = 19 ∨ j = 20 ∨ j = 21 ∨ j = 22 ∨ j = 23 by omega) with rfl | rfl | rfl | rfl | rfl | rfl | rfl | rfl | rfl | rfl | rfl | rfl | rfl | rfl | rfl | rfl | rfl | rfl | rfl | rfl | rfl | rfl | rfl | rfl <;> rfl) (by show _ ≤ 600000; omega) (by show _ ≤ 7302250; omega) dL_law_8 (fun h H hP hD hS => ?_)
  refine lv_dup hx hb dL_law_11 rfl ?_
  refine call_cP (wc := [(h, .inr (11, [.null, .null, .null, .int (nI 0), .int (nI 0), .null, .int (nI 0), .int (nI 0), .int (nI 0), .int (nI 0), .int (nI 0), .int (nI 0), .null, .null, .null, .null, .null, .null, .null, .int (nI 0), .null, .int (nI 0), .null, .null]))]) (wr := XW cy c1 bb ra rb ia ib kd (u00 pa pb) ++ []) (ws' := fun r : Nat → Nat => XW cy c1 bb ra rb ia ib kd (u00 pa pb) ++ mW cy h r t00 A00) (va_runI (As := []) (rest := [.ref h]) CF (k_X12_init l D cy _ h) (cwI 0 hts' gL_law_X12_init rfl rfl rfl (hts' (.initialized RX12) (by decide +kernel)) (hts' (.methodLink RL 12 yX12_init) (by decide +kernel)) (hts' (.instanceMethod yX12_init) (by decide +kernel)) rfl (by decide +kernel) ⟨Nat.le_of_ble_eq_true rfl, Nat.le_of_ble_eq_true rfl⟩) (pre_CP hKC hP hD List.perm_append_comm) rfl rfl hl.1 rfl (lv_room (Nat.le_of_ble_eq_true rfl)) dL_law_12 ⟨(by show _ ≤ 600000; omega), (by show _ ≤ 7302250; omega)⟩) hS hA hP hD List.perm_append_comm (fun r => by rw [List.append_nil]; exact List.perm_append_comm) (fun r H locs _ hP hD hS => ?_)
  refine lv_astore_n (lv' := [(2, .ref h), (1, .ref (c1 0)), (0, .ref b)]) hx hb dL_law_15 rfl hl (by decide) rfl (fun ls hl => ?_)
  refine lv_iconst (v := nI 0) hx hb dL_law_16 (by decide) ?_
  refine lv_istore_n (lv' := [(3, .int (nI 0)), (2, .ref h), (1, .ref (c1 0)), (0, .ref b)]) hx hb dL_law_17 rfl hl (by decide) rfl (fun ls hl => ?_)
  refine W.widen (k := 600000) (n := 7302250) (by omega) (by omega) ?_
  exact law_loop C0 hL hKN (L + 8) 0 (by omega) (by omega) (u00 pa pb) t00 A00 0 0 _ _ _ (rel00 kd pa pb) hP hD hS (lv_sub hl [3, 2, 1, 0] rfl)
