/-! the reference's calls, in one form -/
section FACTS
variable {kd : Nat → Nat} {v : Nat → Int32} {A A2 : Nat → Nat → Int32} {n dr : Nat} {u : XS}
theorem RelX.facts (h : RelX kd v A n dr u) : Cat (A 12) n ∧ A 12 1 = nI dr ∧ dr ≤ 6 ∧ (A 12 4 = nI 1 → 0 < n ∧ 0 < dr) ∧ (0 < n → 0 < dr) ∧ (∀ k, k < 8 → ∃ z, z ≤ 40 ∧ A 1 k = nI z) ∧ (∃ z, z ≤ 60 ∧ v 4 = nI z) ∧ v 19 = nI u.1.1 ∧ u.1.1 ≤ 24 ∧ ∃ z, z ≤ 16 ∧ v 21 = nI z := by
  obtain ⟨⟨ac, fi, lf⟩, ⟨rl, rz, rf⟩, ⟨L, w4, p, w6, w7, w8, w9, tf⟩, ⟨Sr, tr⟩, ⟨S0, t0⟩, ⟨S1, t1, S2, t2, fs⟩, ⟨z, cd, lk, pl, kf⟩, ⟨pa, pb, pS, pt⟩, ⟨iS, it⟩⟩ := u
  obtain ⟨h1, h2, h3, h4, h5, h6, h7, h8, h9, h10, h11, h12, h13, h14, h15⟩ := h
  obtain ⟨g1, g2, g3, g4, g5, g6, g7, g8, g9⟩ := h5
  refine ⟨g1, g5, g6, fun z => ?_, fun z => (g7 z).1, fun k hk => (h7 k hk).2.2.2.1, ⟨_, h9, h8⟩, h3, h4, ⟨_, h14, h13⟩⟩
  rcases Nat.eq_zero_or_pos n with q | q
  · exact absurd z (g8 q)
  · exact ⟨q, (g7 q).1⟩
theorem RelX.tape (h : RelX kd v A n dr u) : u.2.2.1.1 ≤ 60 ∧ v 4 = nI u.2.2.1.1 ∧ u.2.2.1.2.2.2.2.2.2.2 = A 5 := by
  obtain ⟨⟨ac, fi, lf⟩, ⟨rl, rz, rf⟩, ⟨L, w4, p, w6, w7, w8, w9, tf⟩, ⟨Sr, tr⟩, ⟨S0, t0⟩, ⟨S1, t1, S2, t2, fs⟩, ⟨z, cd, lk, pl, kf⟩, ⟨pa, pb, pS, pt⟩, ⟨iS, it⟩⟩ := u
  obtain ⟨h1, h2, h3, h4, h5, h6, h7, h8, h9, h10, h11, h12, h13, h14, h15⟩ := h
  exact ⟨h9, h8, h10⟩
theorem upd_same {k : Nat} {x : Int32} (h : v k = x) : upd v k x = v := by
  funext j
  by_cases e : j = k
  · subst e; rw [pk_us, h]
  · rw [pk_un e]
theorem up_same {k : Nat} {x : Nat → Int32} (h : x = A k) : va_up A k x = A := by
  funext j
  by_cases e : j = k
  · subst e; rw [va_up_self, h]
  · rw [va_up_ne _ _ e]
theorem scr_eq (h : scr A2 A) : eqA [] A A2 := fun j hj _ => h j (by rintro rfl; exact absurd hj (by decide)) (by rintro rfl; exact absurd hj (by decide)) (by rintro rfl; exact absurd hj (by decide)) (by rintro rfl; exact absurd hj (by decide))
end FACTS
set_option maxHeartbeats 4000000 in
theorem y_row (l : Launch) (D : va_G) (cy : Nat → ClassId) (sz h : Nat) (r : Nat → Nat) (kd : Nat → Nat) (u : XS) (v : Nat → Int32) (A : Nat → Nat → Int32) (n dr : Nat) (hR : RelX kd v A n dr u) (y : Int32) (l0 : Int32) (n0 : Int32) : Met l yX12_row wsX12_row (rmD 2) (pPre D (TY cy) (mW cy h r v A) sz [.ref h, .int y, .int l0, .int n0]) (pI D (TY cy) (mW cy h r v A) sz (fun w_ : MS => mW cy h r w_.1 w_.2) (fun (r_ : Int32) (w_ : MS) => r_ = (mRow v A y l0 n0).1 ∧ ∀ (u1 : XS) (n1 dr1 : Nat), RelX kd (mRow v A y l0 n0).2.1 (mRow v A y l0 n0).2.2 n1 dr1 u1 → RelX kd w_.1 w_.2 n1 dr1 u1)) 0 0 (va_A (mW cy h r v A) sz) := by
  have F := hR.facts
  refine met_frame (wr := []) (k_X12_row l D cy sz h r v A y l0 n0) (perm_nil _) (fun r_ w_ hw => ?_)
  exact ⟨w_, ⟨hw.1, fun u1 n1 dr1 hh => by rw [hw.2]; exact hh⟩, (perm_nil _).symm⟩
set_option maxHeartbeats 4000000 in
theorem y_set (l : Launch) (D : va_G) (cy : Nat → ClassId) (sz h : Nat) (r : Nat → Nat) (kd : Nat → Nat) (u : XS) (v : Nat → Int32) (A : Nat → Nat → Int32) (n dr : Nat) (hR : RelX kd v A n dr u) (y : Int32) (i0 : Int32) (w0 : Int32) : Met l yX12_set wsX12_set (rmD 2) (pPre D (TY cy) (mW cy h r v A) sz [.ref h, .int y, .int i0, .int w0]) (pI D (TY cy) (mW cy h r v A) sz (fun w_ : MS => mW cy h r w_.1 w_.2) (fun (r_ : Int32) (w_ : MS) => r_ = (mSet v A y i0 w0).1 ∧ ∀ (u1 : XS) (n1 dr1 : Nat), RelX kd (mSet v A y i0 w0).2.1 (mSet v A y i0 w0).2.2 n1 dr1 u1 → RelX kd w_.1 w_.2 n1 dr1 u1)) 0 0 (va_A (mW cy h r v A) sz) := by
  have F := hR.facts
  refine met_frame (wr := []) (k_X12_set l D cy sz h r v A y i0 w0 F.2.2.2.2.2.1) (perm_nil _) (fun r_ w_ hw => ?_)
  exact ⟨w_, ⟨hw.1, fun u1 n1 dr1 hh => by rw [hw.2]; exact hh⟩, (perm_nil _).symm⟩
set_option maxHeartbeats 4000000 in
theorem y_copy (l : Launch) (D : va_G) (cy : Nat → ClassId) (sz h : Nat) (r : Nat → Nat) (kd : Nat → Nat) (u : XS) (v : Nat → Int32) (A : Nat → Nat → Int32) (n dr : Nat) (hR : RelX kd v A n dr u) (y : Int32) (i0 : Int32) (y2 : Int32) (j0 : Int32) (n0 : Int32) : Met l yX12_copy wsX12_copy (rmD 2) (pPre D (TY cy) (mW cy h r v A) sz [.ref h, .int y, .int i0, .int y2, .int j0, .int n0]) (pI D (TY cy) (mW cy h r v A) sz (fun w_ : MS => mW cy h r w_.1 w_.2) (fun (r_ : Int32) (w_ : MS) => r_ = (mCopy v A y i0 y2 j0 n0).1 ∧ ∀ (u1 : XS) (n1 dr1 : Nat), RelX kd (mCopy v A y i0 y2 j0 n0).2.1 (mCopy v A y i0 y2 j0 n0).2.2 n1 dr1 u1 → RelX kd w_.1 w_.2 n1 dr1 u1)) 0 0 (va_A (mW cy h r v A) sz) := by
  have F := hR.facts
  refine met_frame (wr := []) (k_X12_copy l D cy sz h r v A y i0 y2 j0 n0 F.2.2.2.2.2.1) (perm_nil _) (fun r_ w_ hw => ?_)
  exact ⟨w_, ⟨hw.1, fun u1 n1 dr1 hh => by rw [hw.2]; exact hh⟩, (perm_nil _).symm⟩
set_option maxHeartbeats 4000000 in
theorem y_drop (l : Launch) (D : va_G) (cy : Nat → ClassId) (sz h : Nat) (r : Nat → Nat) (kd : Nat → Nat) (u : XS) (v : Nat → Int32) (A : Nat → Nat → Int32) (n dr : Nat) (hR : RelX kd v A n dr u) (y : Int32) : Met l yX12_drop wsX12_drop (rmD 2) (pPre D (TY cy) (mW cy h r v A) sz [.ref h, .int y]) (pI D (TY cy) (mW cy h r v A) sz (fun w_ : MS => mW cy h r w_.1 w_.2) (fun (r_ : Int32) (w_ : MS) => r_ = (mDrop v A y).1 ∧ ∀ (u1 : XS) (n1 dr1 : Nat), RelX kd (mDrop v A y).2.1 (mDrop v A y).2.2 n1 dr1 u1 → RelX kd w_.1 w_.2 n1 dr1 u1)) 0 0 (va_A (mW cy h r v A) sz) := by
  have F := hR.facts
  refine met_frame (wr := []) (k_X12_drop l D cy sz h r v A y) (perm_nil _) (fun r_ w_ hw => ?_)
  exact ⟨w_, ⟨hw.1, fun u1 n1 dr1 hh => by rw [hw.2]; exact hh⟩, (perm_nil _).symm⟩
set_option maxHeartbeats 4000000 in
theorem y_feed (l : Launch) (D : va_G) (cy : Nat → ClassId) (sz h : Nat) (r : Nat → Nat) (kd : Nat → Nat) (u : XS) (v : Nat → Int32) (A : Nat → Nat → Int32) (n dr : Nat) (hR : RelX kd v A n dr u) (y : Int32) : Met l yX12_feed wsX12_feed (rmD 1) (pPre D (TY cy) (mW cy h r v A) sz [.ref h, .int y]) (pI D (TY cy) (mW cy h r v A) sz (fun w_ : MS => mW cy h r w_.1 w_.2) (fun (r_ : Int32) (w_ : MS) => r_ = (mFeed v A y).1 ∧ ∀ (u1 : XS) (n1 dr1 : Nat), RelX kd (mFeed v A y).2.1 (mFeed v A y).2.2 n1 dr1 u1 → RelX kd w_.1 w_.2 n1 dr1 u1)) 0 0 (va_A (mW cy h r v A) sz) := by
  have F := hR.facts
  refine met_frame (wr := []) (k_X12_feed l D cy sz h r v A y F.2.2.2.2.2.2.1) (perm_nil _) (fun r_ w_ hw => ?_)
  exact ⟨w_, ⟨hw.1, fun u1 n1 dr1 hh => by rw [hw.2]; exact hh⟩, (perm_nil _).symm⟩
set_option maxHeartbeats 4000000 in
theorem y_catalogue (l : Launch) (D : va_G) (cy : Nat → ClassId) (sz h : Nat) (r : Nat → Nat) (kd : Nat → Nat) (u : XS) (v : Nat → Int32) (A : Nat → Nat → Int32) (n dr : Nat) (hR : RelX kd v A n dr u) (tf9 : Nat → Int32) (L9 : Nat) (et : tf9 = u.2.2.1.2.2.2.2.2.2.2) (eL : L9 = u.2.2.1.1)  : Met l yX12_catalogue wsX12_catalogue (rmD 5) (pPre D (TY cy) (mW cy h r v A) sz [.ref h]) (pI D (TY cy) (mW cy h r v A) sz (fun w_ : MS => mW cy h r w_.1 w_.2) (fun (r_ : Int32) (w_ : MS) => r_ = mCatR tf9 L9 ∧ ∀ (u1 : XS) (n1 dr1 : Nat), RelX kd (mCatV v tf9 L9) (mCatA A tf9 L9) n1 dr1 u1 → RelX kd w_.1 w_.2 n1 dr1 u1)) 0 0 (va_A (mW cy h r v A) sz) := by
  have F := hR.facts
  obtain ⟨hL9, h49, h59⟩ := hR.tape
  rw [← eL] at hL9 h49
  rw [← et] at h59
  have hM := (k_X12_catalogue l D cy sz h r v A tf9 L9 hL9)
  rw [upd_same h49, up_same h59] at hM
  refine met_frame (wr := []) hM (perm_nil _) (fun r_ w_ hw => ?_)
  exact ⟨w_, ⟨hw.1, fun u1 n1 dr1 hh => hh.mv (fun j hj _ => hw.2.1 j (by rintro rfl; exact absurd hj (by decide)) (by rintro rfl; exact absurd hj (by decide)) (by rintro rfl; exact absurd hj (by decide)) (by rintro rfl; exact absurd hj (by decide)) (by rintro rfl; exact absurd hj (by decide))) (fun j hj _ => hw.2.2 j (by rintro rfl; exact absurd hj (by decide)))⟩, (perm_nil _).symm⟩
set_option maxHeartbeats 4000000 in
theorem y_fault (l : Launch) (D : va_G) (cy : Nat → ClassId) (sz h : Nat) (r : Nat → Nat) (kd : Nat → Nat) (u : XS) (v : Nat → Int32) (A : Nat → Nat → Int32) (n dr : Nat) (hR : RelX kd v A n dr u)  : Met l yX12_fault wsX12_fault (rmD 0) (pPre D (TY cy) (mW cy h r v A) sz [.ref h]) (pI D (TY cy) (mW cy h r v A) sz (fun w_ : MS => mW cy h r w_.1 w_.2) (fun (r_ : Int32) (w_ : MS) => r_ = v 11 ∧ ∀ (u1 : XS) (n1 dr1 : Nat), RelX kd v A n1 dr1 u1 → RelX kd w_.1 w_.2 n1 dr1 u1)) 0 0 (va_A (mW cy h r v A) sz) := by
  have F := hR.facts
  refine met_frame (wr := []) (k_X12_fault l D cy sz h r v A) (perm_nil _) (fun r_ w_ hw => ?_)
  exact ⟨(v, A), ⟨hw, fun u1 n1 dr1 hh => hh⟩, (perm_nil _).symm⟩
set_option maxHeartbeats 4000000 in
theorem y_nights (l : Launch) (D : va_G) (cy : Nat → ClassId) (sz h : Nat) (r : Nat → Nat) (kd : Nat → Nat) (u : XS) (v : Nat → Int32) (A : Nat → Nat → Int32) (n dr : Nat) (hR : RelX kd v A n dr u) (a9 : Nat) (ea : a9 = u.1.1) (y : Int32) : Met l yX12_nights wsX12_nights (rmD 5) (pPre D (TY cy) (mW cy h r v A) sz [.ref h, .int y]) (pI D (TY cy) (mW cy h r v A) sz (fun w_ : MS => mW cy h r w_.1 w_.2) (fun (r_ : Int32) (w_ : MS) => r_ = (mNights v A n a9 y).1 ∧ ∀ (u1 : XS) (n1 dr1 : Nat), RelX kd (mNights v A n a9 y).2.1 (mNights v A n a9 y).2.2 n1 dr1 u1 → RelX kd w_.1 w_.2 n1 dr1 u1)) 0 0 (va_A (mW cy h r v A) sz) := by
  have F := hR.facts
  refine met_frame (wr := []) (k_X12_nights l D cy sz h r v A n a9 y F.1 (by rw [ea]; exact F.2.2.2.2.2.2.2.1) (by rw [ea]; exact F.2.2.2.2.2.2.2.2.1)) (perm_nil _) (fun r_ w_ hw => ?_)
  exact ⟨w_, ⟨hw.1, fun u1 n1 dr1 hh => by rw [hw.2]; exact hh⟩, (perm_nil _).symm⟩
set_option maxHeartbeats 4000000 in
theorem y_put (l : Launch) (D : va_G) (cy : Nat → ClassId) (sz h : Nat) (r : Nat → Nat) (kd : Nat → Nat) (u : XS) (v : Nat → Int32) (A : Nat → Nat → Int32) (n dr : Nat) (hR : RelX kd v A n dr u) (a9 : Nat) (ea : a9 = u.1.1) (y : Int32) (d0 : Int32) : Met l yX12_put wsX12_put (rmD 2) (pPre D (TY cy) (mW cy h r v A) sz [.ref h, .int y, .int d0]) (pI D (TY cy) (mW cy h r v A) sz (fun w_ : MS => mW cy h r w_.1 w_.2) (fun (r_ : Int32) (w_ : MS) => r_ = (mPut v A n a9 y d0).1 ∧ ∀ (u1 : XS) (n1 dr1 : Nat), RelX kd (mPut v A n a9 y d0).2.1 (mPut v A n a9 y d0).2.2 n1 dr1 u1 → RelX kd w_.1 w_.2 n1 dr1 u1)) 0 0 (va_A (mW cy h r v A) sz) := by
  have F := hR.facts
  refine met_frame (wr := []) (k_X12_put l D cy sz h r v A n a9 dr y d0 F.1 (by rw [ea]; exact F.2.2.2.2.2.2.2.1) (by rw [ea]; exact F.2.2.2.2.2.2.2.2.1) F.2.1 F.2.2.1) (perm_nil _) (fun r_ w_ hw => ?_)
  exact ⟨w_, ⟨hw.1, fun u1 n1 dr1 hh => by rw [hw.2]; exact hh⟩, (perm_nil _).symm⟩
set_option maxHeartbeats 4000000 in
theorem y_turn (l : Launch) (D : va_G) (cy : Nat → ClassId) (sz h : Nat) (r : Nat → Nat) (kd : Nat → Nat) (u : XS) (v : Nat → Int32) (A : Nat → Nat → Int32) (n dr : Nat) (hR : RelX kd v A n dr u) (a9 : Nat) (ea : a9 = u.1.1) (d0 : Int32) : Met l yX12_turn wsX12_turn (rmD 2) (pPre D (TY cy) (mW cy h r v A) sz [.ref h, .int d0]) (pI D (TY cy) (mW cy h r v A) sz (fun w_ : MS => mW cy h r w_.1 w_.2) (fun (r_ : Int32) (w_ : MS) => r_ = (mTurn v A n a9 d0).1 ∧ ∀ (u1 : XS) (n1 dr1 : Nat), RelX kd (mTurn v A n a9 d0).2.1 (mTurn v A n a9 d0).2.2 n1 dr1 u1 → RelX kd w_.1 w_.2 n1 dr1 u1)) 0 0 (va_A (mW cy h r v A) sz) := by
  have F := hR.facts
  refine met_frame (wr := []) (k_X12_turn l D cy sz h r v A n a9 dr d0 F.1 (by rw [ea]; exact F.2.2.2.2.2.2.2.1) (by rw [ea]; exact F.2.2.2.2.2.2.2.2.1) F.2.1 F.2.2.1) (perm_nil _) (fun r_ w_ hw => ?_)
  exact ⟨w_, ⟨hw.1, fun u1 n1 dr1 hh => by rw [hw.2]; exact hh⟩, (perm_nil _).symm⟩
set_option maxHeartbeats 4000000 in
theorem y_like (l : Launch) (D : va_G) (cy : Nat → ClassId) (sz h : Nat) (r : Nat → Nat) (kd : Nat → Nat) (u : XS) (v : Nat → Int32) (A : Nat → Nat → Int32) (n dr : Nat) (hR : RelX kd v A n dr u) (a9 : Nat) (ea : a9 = u.1.1) (y : Int32) (o0 : Int32) : Met l yX12_like wsX12_like (rmD 2) (pPre D (TY cy) (mW cy h r v A) sz [.ref h, .int y, .int o0]) (pI D (TY cy) (mW cy h r v A) sz (fun w_ : MS => mW cy h r w_.1 w_.2) (fun (r_ : Int32) (w_ : MS) => r_ = (mLike v A a9 y o0).1 ∧ ∀ (u1 : XS) (n1 dr1 : Nat), RelX kd (mLike v A a9 y o0).2.1 (mLike v A a9 y o0).2.2 n1 dr1 u1 → RelX kd w_.1 w_.2 n1 dr1 u1)) 0 0 (va_A (mW cy h r v A) sz) := by
  have F := hR.facts
  refine met_frame (wr := []) (k_X12_like l D cy sz h r v A n a9 y o0 F.1 (by rw [ea]; exact F.2.2.2.2.2.2.2.1) (by rw [ea]; exact F.2.2.2.2.2.2.2.2.1)) (perm_nil _) (fun r_ w_ hw => ?_)
  exact ⟨w_, ⟨hw.1, fun u1 n1 dr1 hh => by rw [hw.2]; exact hh⟩, (perm_nil _).symm⟩
set_option maxHeartbeats 4000000 in
theorem y_undo (l : Launch) (D : va_G) (cy : Nat → ClassId) (sz h : Nat) (r : Nat → Nat) (kd : Nat → Nat) (u : XS) (v : Nat → Int32) (A : Nat → Nat → Int32) (n dr : Nat) (hR : RelX kd v A n dr u) (a9 : Nat) (ea : a9 = u.1.1)  : Met l yX12_undo wsX12_undo (rmD 1) (pPre D (TY cy) (mW cy h r v A) sz [.ref h]) (pI D (TY cy) (mW cy h r v A) sz (fun w_ : MS => mW cy h r w_.1 w_.2) (fun (r_ : Int32) (w_ : MS) => r_ = (mUndo v A a9).1 ∧ ∀ (u1 : XS) (n1 dr1 : Nat), RelX kd (mUndo v A a9).2.1 (mUndo v A a9).2.2 n1 dr1 u1 → RelX kd w_.1 w_.2 n1 dr1 u1)) 0 0 (va_A (mW cy h r v A) sz) := by
  have F := hR.facts
  refine met_frame (wr := []) (k_X12_undo l D cy sz h r v A a9 (by rw [ea]; exact F.2.2.2.2.2.2.2.1) (by rw [ea]; exact F.2.2.2.2.2.2.2.2.1)) (perm_nil _) (fun r_ w_ hw => ?_)
  exact ⟨w_, ⟨hw.1, fun u1 n1 dr1 hh => by rw [hw.2]; exact hh⟩, (perm_nil _).symm⟩
set_option maxHeartbeats 4000000 in
theorem y_card (l : Launch) (D : va_G) (cy : Nat → ClassId) (sz h : Nat) (r : Nat → Nat) (kd : Nat → Nat) (u : XS) (v : Nat → Int32) (A : Nat → Nat → Int32) (n dr : Nat) (hR : RelX kd v A n dr u) (y : Int32) (w : Int32) : Met l yX12_card wsX12_card (rmD 2) (pPre D (TY cy) (mW cy h r v A) sz [.ref h, .int y, .int w]) (pI D (TY cy) (mW cy h r v A) sz (fun w_ : MS => mW cy h r w_.1 w_.2) (fun (r_ : Int32) (w_ : MS) => r_ = mCard A n y w ∧ ∀ (u1 : XS) (n1 dr1 : Nat), RelX kd v A n1 dr1 u1 → RelX kd w_.1 w_.2 n1 dr1 u1)) 0 0 (va_A (mW cy h r v A) sz) := by
  have F := hR.facts
  refine met_frame (wr := []) (k_X12_card l D cy sz h r v A n y w F.1) (perm_nil _) (fun r_ w_ hw => ?_)
  exact ⟨(v, A), ⟨hw, fun u1 n1 dr1 hh => hh⟩, (perm_nil _).symm⟩
set_option maxHeartbeats 4000000 in
theorem y_drawer (l : Launch) (D : va_G) (cy : Nat → ClassId) (sz h : Nat) (r : Nat → Nat) (kd : Nat → Nat) (u : XS) (v : Nat → Int32) (A : Nat → Nat → Int32) (n dr : Nat) (hR : RelX kd v A n dr u) (d0 : Int32) (w : Int32) : Met l yX12_drawer wsX12_drawer (rmD 2) (pPre D (TY cy) (mW cy h r v A) sz [.ref h, .int d0, .int w]) (pI D (TY cy) (mW cy h r v A) sz (fun w_ : MS => mW cy h r w_.1 w_.2) (fun (r_ : Int32) (w_ : MS) => r_ = mDrawer A n d0 w ∧ ∀ (u1 : XS) (n1 dr1 : Nat), RelX kd v A n1 dr1 u1 → RelX kd w_.1 w_.2 n1 dr1 u1)) 0 0 (va_A (mW cy h r v A) sz) := by
  have F := hR.facts
  refine met_frame (wr := []) (k_X12_drawer l D cy sz h r v A n d0 w F.1) (perm_nil _) (fun r_ w_ hw => ?_)
  exact ⟨(v, A), ⟨hw, fun u1 n1 dr1 hh => hh⟩, (perm_nil _).symm⟩
set_option maxHeartbeats 4000000 in
theorem y_ahead (l : Launch) (D : va_G) (cy : Nat → ClassId) (sz h : Nat) (r : Nat → Nat) (kd : Nat → Nat) (u : XS) (v : Nat → Int32) (A : Nat → Nat → Int32) (n dr : Nat) (hR : RelX kd v A n dr u) (y : Int32) (d0 : Int32) (w0 : Int32) : Met l yX12_ahead wsX12_ahead (rmD 6) (pPre D (TY cy) (mW cy h r v A) sz [.ref h, .int y, .int d0, .int w0]) (pI D (TY cy) (mW cy h r v A) sz (fun w_ : MS => mW cy h r w_.1 w_.2) (fun (r_ : Int32) (w_ : MS) => r_ = mAhead A n y d0 w0 ∧ ∀ (u1 : XS) (n1 dr1 : Nat), RelX kd v A n1 dr1 u1 → RelX kd w_.1 w_.2 n1 dr1 u1)) 0 0 (va_A (mW cy h r v A) sz) := by
  have F := hR.facts
  refine met_frame (wr := []) (k_X12_ahead l D cy sz h r v A n y d0 w0 F.1) (perm_nil _) (fun r_ w_ hw => ?_)
  exact ⟨(v, w_), ⟨hw.1, fun u1 n1 dr1 hh => hh.mv (eqV.rf _) (scr_eq hw.2)⟩, (perm_nil _).symm⟩
set_option maxHeartbeats 4000000 in
theorem y_found (l : Launch) (D : va_G) (cy : Nat → ClassId) (sz h : Nat) (r : Nat → Nat) (kd : Nat → Nat) (u : XS) (v : Nat → Int32) (A : Nat → Nat → Int32) (n dr : Nat) (hR : RelX kd v A n dr u) (y : Int32) (d0 : Int32) : Met l yX12_found wsX12_found (rmD 6) (pPre D (TY cy) (mW cy h r v A) sz [.ref h, .int y, .int d0]) (pI D (TY cy) (mW cy h r v A) sz (fun w_ : MS => mW cy h r w_.1 w_.2) (fun (r_ : Int32) (w_ : MS) => r_ = mFound A n y d0 ∧ ∀ (u1 : XS) (n1 dr1 : Nat), RelX kd v A n1 dr1 u1 → RelX kd w_.1 w_.2 n1 dr1 u1)) 0 0 (va_A (mW cy h r v A) sz) := by
  have F := hR.facts
  refine met_frame (wr := []) (k_X12_found l D cy sz h r v A n y d0 F.1) (perm_nil _) (fun r_ w_ hw => ?_)
  exact ⟨(v, w_), ⟨hw.1, fun u1 n1 dr1 hh => hh.mv (eqV.rf _) (scr_eq hw.2)⟩, (perm_nil _).symm⟩
set_option maxHeartbeats 4000000 in
theorem y_still (l : Launch) (D : va_G) (cy : Nat → ClassId) (sz h : Nat) (r : Nat → Nat) (kd : Nat → Nat) (u : XS) (v : Nat → Int32) (A : Nat → Nat → Int32) (n dr : Nat) (hR : RelX kd v A n dr u) (w0 : Int32) : Met l yX12_still wsX12_still (rmD 6) (pPre D (TY cy) (mW cy h r v A) sz [.ref h, .int w0]) (pI D (TY cy) (mW cy h r v A) sz (fun w_ : MS => mW cy h r w_.1 w_.2) (fun (r_ : Int32) (w_ : MS) => r_ = mStil A n w0 ∧ ∀ (u1 : XS) (n1 dr1 : Nat), RelX kd v A n1 dr1 u1 → RelX kd w_.1 w_.2 n1 dr1 u1)) 0 0 (va_A (mW cy h r v A) sz) := by
  have F := hR.facts
  refine met_frame (wr := []) (k_X12_still l D cy sz h r v A n w0 F.1) (perm_nil _) (fun r_ w_ hw => ?_)
  exact ⟨(v, w_), ⟨hw.1, fun u1 n1 dr1 hh => hh.mv (eqV.rf _) (scr_eq hw.2)⟩, (perm_nil _).symm⟩
set_option maxHeartbeats 4000000 in
theorem y_mates (l : Launch) (D : va_G) (cy : Nat → ClassId) (sz h : Nat) (r : Nat → Nat) (kd : Nat → Nat) (u : XS) (v : Nat → Int32) (A : Nat → Nat → Int32) (n dr : Nat) (hR : RelX kd v A n dr u)  : Met l yX12_mates wsX12_mates (rmD 2) (pPre D (TY cy) (mW cy h r v A) sz [.ref h]) (pI D (TY cy) (mW cy h r v A) sz (fun w_ : MS => mW cy h r w_.1 w_.2) (fun (r_ : Int32) (w_ : MS) => r_ = mMates A n ∧ ∀ (u1 : XS) (n1 dr1 : Nat), RelX kd v A n1 dr1 u1 → RelX kd w_.1 w_.2 n1 dr1 u1)) 0 0 (va_A (mW cy h r v A) sz) := by
  have F := hR.facts
  refine met_frame (wr := []) (k_X12_mates l D cy sz h r v A n F.1) (perm_nil _) (fun r_ w_ hw => ?_)
  exact ⟨(v, A), ⟨hw, fun u1 n1 dr1 hh => hh⟩, (perm_nil _).symm⟩
set_option maxHeartbeats 4000000 in
theorem y_rods (l : Launch) (D : va_G) (cy : Nat → ClassId) (sz h : Nat) (r : Nat → Nat) (kd : Nat → Nat) (u : XS) (v : Nat → Int32) (A : Nat → Nat → Int32) (n dr : Nat) (hR : RelX kd v A n dr u) (y : Int32) (d0 : Int32) (m0 : Int32) (w0 : Int32) : Met l yX12_rods wsX12_rods (rmD 6) (pPre D (TY cy) (mW cy h r v A) sz [.ref h, .int y, .int d0, .int m0, .int w0]) (pI D (TY cy) (mW cy h r v A) sz (fun w_ : MS => mW cy h r w_.1 w_.2) (fun (r_ : Int32) (w_ : MS) => r_ = mRods A n y d0 m0 w0 ∧ ∀ (u1 : XS) (n1 dr1 : Nat), RelX kd v A n1 dr1 u1 → RelX kd w_.1 w_.2 n1 dr1 u1)) 0 0 (va_A (mW cy h r v A) sz) := by
  have F := hR.facts
  refine met_frame (wr := []) (k_X12_rods l D cy sz h r v A n y d0 m0 w0 F.1) (perm_nil _) (fun r_ w_ hw => ?_)
  exact ⟨(v, w_), ⟨hw.1, fun u1 n1 dr1 hh => hh.mv (eqV.rf _) (scr_eq hw.2)⟩, (perm_nil _).symm⟩
set_option maxHeartbeats 4000000 in
theorem y_tour (l : Launch) (D : va_G) (cy : Nat → ClassId) (sz h : Nat) (r : Nat → Nat) (kd : Nat → Nat) (u : XS) (v : Nat → Int32) (A : Nat → Nat → Int32) (n dr : Nat) (hR : RelX kd v A n dr u) (m0 : Int32) (w0 : Int32) : Met l yX12_tour wsX12_tour (rmD 6) (pPre D (TY cy) (mW cy h r v A) sz [.ref h, .int m0, .int w0]) (pI D (TY cy) (mW cy h r v A) sz (fun w_ : MS => mW cy h r w_.1 w_.2) (fun (r_ : Int32) (w_ : MS) => r_ = mTour A n dr m0 w0 ∧ ∀ (u1 : XS) (n1 dr1 : Nat), RelX kd v A n1 dr1 u1 → RelX kd w_.1 w_.2 n1 dr1 u1)) 0 0 (va_A (mW cy h r v A) sz) := by
  have F := hR.facts
  refine met_frame (wr := []) (k_X12_tour l D cy sz h r v A n dr m0 w0 F.1 F.2.1 F.2.2.1) (perm_nil _) (fun r_ w_ hw => ?_)
  exact ⟨(v, w_), ⟨hw.1, fun u1 n1 dr1 hh => hh.mv (eqV.rf _) (scr_eq hw.2)⟩, (perm_nil _).symm⟩
set_option maxHeartbeats 4000000 in
theorem y_fits (l : Launch) (D : va_G) (cy : Nat → ClassId) (sz h : Nat) (r : Nat → Nat) (kd : Nat → Nat) (u : XS) (v : Nat → Int32) (A : Nat → Nat → Int32) (n dr : Nat) (hR : RelX kd v A n dr u) (y : Int32) (y2 : Int32) (i0 : Int32) (m0 : Int32) (w0 : Int32) : Met l yX12_fits wsX12_fits (rmD 7) (pPre D (TY cy) (mW cy h r v A) sz [.ref h, .int y, .int y2, .int i0, .int m0, .int w0]) (pI D (TY cy) (mW cy h r v A) sz (fun w_ : MS => mW cy h r w_.1 w_.2) (fun (r_ : Int32) (w_ : MS) => r_ = (mFit v A n dr y y2 i0 m0 w0).1 ∧ ∀ (u1 : XS) (n1 dr1 : Nat), RelX kd (mFit v A n dr y y2 i0 m0 w0).2 A n1 dr1 u1 → RelX kd w_.1 w_.2 n1 dr1 u1)) 0 0 (va_A (mW cy h r v A) sz) := by
  have F := hR.facts
  refine met_frame (wr := []) (k_X12_fits l D cy sz h r v A n dr y y2 i0 m0 w0 F.1 F.2.1 F.2.2.1 F.2.2.2.2.2.1 F.2.2.2.2.1) (perm_nil _) (fun r_ w_ hw => ?_)
  exact ⟨w_, ⟨hw.1, fun u1 n1 dr1 hh => by rw [hw.2.1]; exact hh.mv (eqV.rf _) (scr_eq hw.2.2)⟩, (perm_nil _).symm⟩
set_option maxHeartbeats 4000000 in
theorem y_asleep (l : Launch) (D : va_G) (cy : Nat → ClassId) (sz h : Nat) (r : Nat → Nat) (kd : Nat → Nat) (u : XS) (v : Nat → Int32) (A : Nat → Nat → Int32) (n dr : Nat) (hR : RelX kd v A n dr u) (y : Int32) (d0 : Int32) (t9 : Int32) (w0 : Int32) : Met l yX12_asleep wsX12_asleep (rmD 5) (pPre D (TY cy) (mW cy h r v A) sz [.ref h, .int y, .int d0, .int t9, .int w0]) (pI D (TY cy) (mW cy h r v A) sz (fun w_ : MS => mW cy h r w_.1 w_.2) (fun (r_ : Int32) (w_ : MS) => r_ = mAslp A n y d0 t9 w0 ∧ ∀ (u1 : XS) (n1 dr1 : Nat), RelX kd v A n1 dr1 u1 → RelX kd w_.1 w_.2 n1 dr1 u1)) 0 0 (va_A (mW cy h r v A) sz) := by
  have F := hR.facts
  refine met_frame (wr := []) (k_X12_asleep l D cy sz h r v A n y d0 t9 w0 F.1) (perm_nil _) (fun r_ w_ hw => ?_)
  exact ⟨(v, w_), ⟨hw.1, fun u1 n1 dr1 hh => hh.mv (eqV.rf _) (scr_eq hw.2)⟩, (perm_nil _).symm⟩
set_option maxHeartbeats 4000000 in
theorem y_drawn (l : Launch) (D : va_G) (cy : Nat → ClassId) (sz h : Nat) (r : Nat → Nat) (kd : Nat → Nat) (u : XS) (v : Nat → Int32) (A : Nat → Nat → Int32) (n dr : Nat) (hR : RelX kd v A n dr u) (m0 : Int32) (x0 : Int32) (w0 : Int32) : Met l yX12_drawn wsX12_drawn (rmD 6) (pPre D (TY cy) (mW cy h r v A) sz [.ref h, .int m0, .int x0, .int w0]) (pI D (TY cy) (mW cy h r v A) sz (fun w_ : MS => mW cy h r w_.1 w_.2) (fun (r_ : Int32) (w_ : MS) => r_ = mDrwn A n dr m0 x0 w0 ∧ ∀ (u1 : XS) (n1 dr1 : Nat), RelX kd v A n1 dr1 u1 → RelX kd w_.1 w_.2 n1 dr1 u1)) 0 0 (va_A (mW cy h r v A) sz) := by
  have F := hR.facts
  refine met_frame (wr := []) (k_X12_drawn l D cy sz h r v A n dr m0 x0 w0 F.1 F.2.1 F.2.2.1 F.2.2.2.1) (perm_nil _) (fun r_ w_ hw => ?_)
  exact ⟨(v, w_), ⟨hw.1, fun u1 n1 dr1 hh => hh.mv (eqV.rf _) (scr_eq hw.2)⟩, (perm_nil _).symm⟩
set_option maxHeartbeats 4000000 in
theorem y_image (l : Launch) (D : va_G) (cy : Nat → ClassId) (sz h : Nat) (r : Nat → Nat) (kd : Nat → Nat) (u : XS) (v : Nat → Int32) (A : Nat → Nat → Int32) (n dr : Nat) (hR : RelX kd v A n dr u) (y : Int32) : Met l yX12_image wsX12_image (rmD 1) (pPre D (TY cy) (mW cy h r v A) sz [.ref h, .int y]) (pI D (TY cy) (mW cy h r v A) sz (fun w_ : MS => mW cy h r w_.1 w_.2) (fun (r_ : Int32) (w_ : MS) => r_ = (mImage v A y).1 ∧ ∀ (u1 : XS) (n1 dr1 : Nat), RelX kd (mImage v A y).2.1 (mImage v A y).2.2 n1 dr1 u1 → RelX kd w_.1 w_.2 n1 dr1 u1)) 0 0 (va_A (mW cy h r v A) sz) := by
  have F := hR.facts
  refine met_frame (wr := []) (k_X12_image l D cy sz h r v A y) (perm_nil _) (fun r_ w_ hw => ?_)
  exact ⟨w_, ⟨hw.1, fun u1 n1 dr1 hh => by rw [hw.2]; exact hh⟩, (perm_nil _).symm⟩
set_option maxHeartbeats 4000000 in
theorem y_restore (l : Launch) (D : va_G) (cy : Nat → ClassId) (sz h : Nat) (r : Nat → Nat) (kd : Nat → Nat) (u : XS) (v : Nat → Int32) (A : Nat → Nat → Int32) (n dr : Nat) (hR : RelX kd v A n dr u) (y : Int32) : Met l yX12_restore wsX12_restore (rmD 1) (pPre D (TY cy) (mW cy h r v A) sz [.ref h, .int y]) (pI D (TY cy) (mW cy h r v A) sz (fun w_ : MS => mW cy h r w_.1 w_.2) (fun (r_ : Int32) (w_ : MS) => r_ = (mRestore v A y).1 ∧ ∀ (u1 : XS) (n1 dr1 : Nat), RelX kd (mRestore v A y).2.1 (mRestore v A y).2.2 n1 dr1 u1 → RelX kd w_.1 w_.2 n1 dr1 u1)) 0 0 (va_A (mW cy h r v A) sz) := by
  have F := hR.facts
  refine met_frame (wr := []) (k_X12_restore l D cy sz h r v A y) (perm_nil _) (fun r_ w_ hw => ?_)
  exact ⟨w_, ⟨hw.1, fun u1 n1 dr1 hh => by rw [hw.2]; exact hh⟩, (perm_nil _).symm⟩
set_option maxHeartbeats 4000000 in
theorem y_kind (l : Launch) (D : va_G) (cy : Nat → ClassId) (sz h : Nat) (r : Nat → Nat) (kd : Nat → Nat) (u : XS) (v : Nat → Int32) (A : Nat → Nat → Int32) (n dr : Nat) (hR : RelX kd v A n dr u) (y : Int32) : Met l yX12_kind wsX12_kind (rmD 2) (pPre D (TY cy) (mW cy h r v A) sz [.ref h, .int y]) (pI D (TY cy) (mW cy h r v A) sz (fun w_ : MS => mW cy h r w_.1 w_.2) (fun (r_ : Int32) (w_ : MS) => r_ = mKind A y ∧ ∀ (u1 : XS) (n1 dr1 : Nat), RelX kd v A n1 dr1 u1 → RelX kd w_.1 w_.2 n1 dr1 u1)) 0 0 (va_A (mW cy h r v A) sz) := by
  have F := hR.facts
  refine met_frame (wr := []) (k_X12_kind l D cy sz h r v A n y F.1) (perm_nil _) (fun r_ w_ hw => ?_)
  exact ⟨(v, A), ⟨hw, fun u1 n1 dr1 hh => hh⟩, (perm_nil _).symm⟩
set_option maxHeartbeats 4000000 in
theorem y_as (l : Launch) (D : va_G) (cy : Nat → ClassId) (sz h : Nat) (r : Nat → Nat) (kd : Nat → Nat) (u : XS) (v : Nat → Int32) (A : Nat → Nat → Int32) (n dr : Nat) (hR : RelX kd v A n dr u) (y : Int32) (k0 : Int32) : Met l yX12_as wsX12_as (rmD 2) (pPre D (TY cy) (mW cy h r v A) sz [.ref h, .int y, .int k0]) (pI D (TY cy) (mW cy h r v A) sz (fun w_ : MS => mW cy h r w_.1 w_.2) (fun (r_ : Int32) (w_ : MS) => r_ = (mAs v A y k0).1 ∧ ∀ (u1 : XS) (n1 dr1 : Nat), RelX kd (mAs v A y k0).2 A n1 dr1 u1 → RelX kd w_.1 w_.2 n1 dr1 u1)) 0 0 (va_A (mW cy h r v A) sz) := by
  have F := hR.facts
  refine met_frame (wr := []) (k_X12_as l D cy sz h r v A n y k0 F.1) (perm_nil _) (fun r_ w_ hw => ?_)
  exact ⟨(w_, A), ⟨hw.1, fun u1 n1 dr1 hh => by rw [hw.2]; exact hh⟩, (perm_nil _).symm⟩
set_option maxHeartbeats 4000000 in
theorem y_ask (l : Launch) (D : va_G) (cy : Nat → ClassId) (sz h : Nat) (r : Nat → Nat) (kd : Nat → Nat) (u : XS) (v : Nat → Int32) (A : Nat → Nat → Int32) (n dr : Nat) (hR : RelX kd v A n dr u) (y : Int32) (w0 : Int32) : Met l yX12_ask wsX12_ask (rmD 5) (pPre D (TY cy) (mW cy h r v A) sz [.ref h, .int y, .int w0]) (pI D (TY cy) (mW cy h r v A) sz (fun w_ : MS => mW cy h r w_.1 w_.2) (fun (r_ : Int32) (w_ : MS) => r_ = (mAsk v A y w0).1 ∧ ∀ (u1 : XS) (n1 dr1 : Nat), RelX kd (mAsk v A y w0).2.1 (mAsk v A y w0).2.2 n1 dr1 u1 → RelX kd w_.1 w_.2 n1 dr1 u1)) 0 0 (va_A (mW cy h r v A) sz) := by
  have F := hR.facts
  refine met_frame (wr := []) (k_X12_ask l D cy sz h r v A n y w0 F.1) (perm_nil _) (fun r_ w_ hw => ?_)
  exact ⟨w_, ⟨hw.1, fun u1 n1 dr1 hh => by rw [hw.2]; exact hh⟩, (perm_nil _).symm⟩
set_option maxHeartbeats 4000000 in
theorem y_trace (l : Launch) (D : va_G) (cy : Nat → ClassId) (sz h : Nat) (r : Nat → Nat) (kd : Nat → Nat) (u : XS) (v : Nat → Int32) (A : Nat → Nat → Int32) (n dr : Nat) (hR : RelX kd v A n dr u) (y : Int32) : Met l yX12_trace wsX12_trace (rmD 1) (pPre D (TY cy) (mW cy h r v A) sz [.ref h, .int y]) (pI D (TY cy) (mW cy h r v A) sz (fun w_ : MS => mW cy h r w_.1 w_.2) (fun (r_ : Int32) (w_ : MS) => r_ = mTrace v A y ∧ ∀ (u1 : XS) (n1 dr1 : Nat), RelX kd v A n1 dr1 u1 → RelX kd w_.1 w_.2 n1 dr1 u1)) 0 0 (va_A (mW cy h r v A) sz) := by
  have F := hR.facts
  obtain ⟨z9, hz16, hz9⟩ := F.2.2.2.2.2.2.2.2.2
  refine met_frame (wr := []) (k_X12_trace l D cy sz h r v A z9 y hz9 hz16) (perm_nil _) (fun r_ w_ hw => ?_)
  exact ⟨(v, A), ⟨hw, fun u1 n1 dr1 hh => hh⟩, (perm_nil _).symm⟩
set_option maxHeartbeats 4000000 in
theorem y_count (l : Launch) (D : va_G) (cy : Nat → ClassId) (sz h : Nat) (r : Nat → Nat) (kd : Nat → Nat) (u : XS) (v : Nat → Int32) (A : Nat → Nat → Int32) (n dr : Nat) (hR : RelX kd v A n dr u) (y : Int32) : Met l yX12_count wsX12_count (rmD 1) (pPre D (TY cy) (mW cy h r v A) sz [.ref h, .int y]) (pI D (TY cy) (mW cy h r v A) sz (fun w_ : MS => mW cy h r w_.1 w_.2) (fun (r_ : Int32) (w_ : MS) => r_ = mCount v A n y ∧ ∀ (u1 : XS) (n1 dr1 : Nat), RelX kd v A n1 dr1 u1 → RelX kd w_.1 w_.2 n1 dr1 u1)) 0 0 (va_A (mW cy h r v A) sz) := by
  have F := hR.facts
  refine met_frame (wr := []) (k_X12_count l D cy sz h r v A n y F.1) (perm_nil _) (fun r_ w_ hw => ?_)
  exact ⟨(v, A), ⟨hw, fun u1 n1 dr1 hh => hh⟩, (perm_nil _).symm⟩
set_option maxHeartbeats 4000000 in
theorem y_status (l : Launch) (D : va_G) (cy : Nat → ClassId) (sz h : Nat) (r : Nat → Nat) (kd : Nat → Nat) (u : XS) (v : Nat → Int32) (A : Nat → Nat → Int32) (n dr : Nat) (hR : RelX kd v A n dr u)  : Met l yX12_status wsX12_status (rmD 0) (pPre D (TY cy) (mW cy h r v A) sz [.ref h]) (pI D (TY cy) (mW cy h r v A) sz (fun w_ : MS => mW cy h r w_.1 w_.2) (fun (r_ : Int32) (w_ : MS) => r_ = v 3 ∧ ∀ (u1 : XS) (n1 dr1 : Nat), RelX kd v A n1 dr1 u1 → RelX kd w_.1 w_.2 n1 dr1 u1)) 0 0 (va_A (mW cy h r v A) sz) := by
  have F := hR.facts
  refine met_frame (wr := []) (k_X12_status l D cy sz h r v A) (perm_nil _) (fun r_ w_ hw => ?_)
  exact ⟨(v, A), ⟨hw, fun u1 n1 dr1 hh => hh⟩, (perm_nil _).symm⟩
