/-! catalogues: the drawers and places of cards, and what keeps them right -/
/-- so many of the first n cards are in drawer d -/
def cnt (i : Nat → Nat) (d n : Nat) : Nat := fb_ct (fun k => decide (i k = d)) n
/-- drawers i and places q of n cards: the places of a drawer are 0, 1, .. each once -/
def PP (i q : Nat → Nat) (n : Nat) : Prop := (∀ c, c < n → q c < cnt i (i c) n) ∧ ∀ c c', c < n → c' < n → c ≠ c' → i c = i c' → q c ≠ q c'
theorem cnt_move (i : Nat → Nat) {c n : Nat} (hc : c < n) (d x : Nat) : cnt (fun k => if k = c then d else i k) x n + (if i c = x then 1 else 0) = cnt i x n + (if d = x then 1 else 0) := by
  have h := fb_ct_upd (fun k => decide (i k = x)) (decide (d = x)) hc
  have e : (fun k => decide ((if k = c then d else i k) = x)) = (fun k => if k = c then decide (d = x) else decide (i k = x)) := by
    funext k; split <;> rfl
  rw [cnt, e, cnt]
  simpa using h
theorem cnt_congr {i j : Nat → Nat} {n : Nat} (h : ∀ c, c < n → i c = j c) (d : Nat) : cnt i d n = cnt j d n := fb_ct_cong (fun k hk => by rw [h k hk])
theorem cnt_succ (i : Nat → Nat) (d n : Nat) : cnt i d (n + 1) = cnt i d n + (if i n = d then 1 else 0) := by
  rw [cnt, fb_ct_succ]; simp [cnt]
/-- a card leaves its place (all behind it come one on) and comes into drawer d at place p (all from p on make room) -/
def mvQ (i q : Nat → Nat) (c d p k : Nat) : Nat :=
  if k = c then p else
    if i k = d ∧ p ≤ (if i k = i c ∧ q c < q k then q k - 1 else q k) then (if i k = i c ∧ q c < q k then q k - 1 else q k) + 1 else (if i k = i c ∧ q c < q k then q k - 1 else q k)
theorem PP_move {i q : Nat → Nat} {n c : Nat} (h : PP i q n) (hc : c < n) (d p : Nat) (hp : p + (if i c = d then 1 else 0) ≤ cnt i d n) : PP (fun k => if k = c then d else i k) (mvQ i q c d p) n := by
  refine ⟨fun k hk => ?_, fun k k' hk hk' hne he => ?_⟩
  · have b := h.1 k hk
    have bc := h.1 c hc
    have nq := h.2 k c hk hc
    have mk := cnt_move i hc d (i k)
    have md := cnt_move i hc d d
    clear h
    by_cases e : k = c
    · subst e
      simp only [mvQ, if_true] at md ⊢
      omega
    · simp only [mvQ, if_neg e]
      generalize cnt (fun k => if k = c then d else i k) = g at *
      generalize cnt i = g0 at *
      grind
  · have n1 := h.2 k c hk hc
    have n2 := h.2 k' c hk' hc
    have n3 := h.2 k k' hk hk' hne
    clear h hp
    simp only [mvQ] at he ⊢
    grind
/-- two of one drawer change places -/
theorem PP_swap {i q : Nat → Nat} {n a b : Nat} (h : PP i q n) (ha : a < n) (hb : b < n) (hab : i a = i b) : PP i (fun k => if k = a then q b else if k = b then q a else q k) n := by
  refine ⟨fun k hk => ?_, fun k k' hk hk' hne he => ?_⟩
  · have h1 := h.1 k hk
    have h2 := h.1 a ha
    have h3 := h.1 b hb
    clear h
    generalize cnt i = g0 at *
    grind
  · have g1 := h.2 k k' hk hk' hne he
    have g2 := h.2 a k' ha hk'
    have g3 := h.2 b k' hb hk'
    have g4 := h.2 k a hk ha
    have g5 := h.2 k b hk hb
    have g6 := h.2 a b ha hb
    clear h
    grind
/-- a drawer is put in the wrong way round -/
theorem PP_turn {i q : Nat → Nat} {n : Nat} (h : PP i q n) (d : Nat) : PP i (fun k => if i k = d then cnt i d n - 1 - q k else q k) n := by
  refine ⟨fun k hk => ?_, fun k k' hk hk' hne he => ?_⟩
  · have b := h.1 k hk
    clear h
    generalize cnt i = g0 at *
    grind
  · have b := h.1 k hk
    have b' := h.1 k' hk'
    have n3 := h.2 k k' hk hk' hne he
    clear h
    generalize cnt i = g0 at *
    grind
/-- one card more, behind all of its drawer -/
theorem PP_join {i q : Nat → Nat} {n : Nat} (h : PP i q n) (d : Nat) : PP (fun k => if k = n then d else i k) (fun k => if k = n then cnt i d n else q k) (n + 1) := by
  have ec : ∀ x, cnt (fun k => if k = n then d else i k) x (n + 1) = cnt i x n + (if d = x then 1 else 0) := by
    intro x
    rw [cnt_succ]
    have : cnt (fun k => if k = n then d else i k) x n = cnt i x n := cnt_congr (fun c hc => by simp [Nat.ne_of_lt hc]) x
    rw [this]; simp
  refine ⟨fun k hk => ?_, fun k k' hk hk' hne he => ?_⟩
  · by_cases e : k = n
    · subst e; simp only [if_true]; rw [ec]; simp
    · simp only [e, if_false]; rw [ec]
      have := h.1 k (by omega)
      omega
  · have b1 := h.1 k
    have b2 := h.1 k'
    have b3 := h.2 k k'
    clear h ec
    generalize cnt i = g0 at *
    grind
/-- whoever isn't the first of a drawer has one right ahead -/
theorem PP_ahead {i q : Nat → Nat} {n c : Nat} (h : PP i q n) (hc : c < n) (y : Nat) (hy : y < cnt i (i c) n) : ∃ k, k < n ∧ i k = i c ∧ q k = y := by
  have hk : ∀ j, j < cnt i (i c) n → ∃ k, k < n ∧ decide (i k = i c) = true ∧ fb_ct (fun k => decide (i k = i c)) k = j := fun j hj => fb_ct_kth hj
  let f : Nat → Nat := fun j => if hj : j < cnt i (i c) n then (hk j hj).choose else 0
  have hf : ∀ j, j < cnt i (i c) n → f j < n ∧ i (f j) = i c ∧ fb_ct (fun k => decide (i k = i c)) (f j) = j := fun j hj => by
    have s := (hk j hj).choose_spec
    simp only [f, hj, dif_pos]
    exact ⟨s.1, by simpa using s.2.1, s.2.2⟩
  obtain ⟨j, hj, e⟩ := fb_onto (n := cnt i (i c) n) (f := fun j => q (f j)) (fun j hj => by
      have s := hf j hj
      have := h.1 (f j) s.1
      rw [s.2.1] at this
      exact this) (fun a b hab hb => by
      have sa := hf a (by omega)
      have sb := hf b hb
      refine h.2 (f a) (f b) sa.1 sb.1 (fun w => ?_) (by rw [sa.2.1, sb.2.1])
      have := sa.2.2
      rw [w, sb.2.2] at this
      omega) hy
  exact ⟨f j, (hf j hj).1, (hf j hj).2.1, e⟩
