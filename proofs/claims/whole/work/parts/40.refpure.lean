/-! facts that the reference's findHand needs -/
theorem MG.keepb {J J' : zJ} {b : Nat} {s : GSt} {lc lm : Int} (h : MG J b s lc lm) (hn : lc = 0 ∨ lc = 1) (e : ∀ x, 80 ≤ x → x ≤ 83 → J' x b = J x b) (e4 : ∀ q, 60 * b ≤ q → q < 60 * b + 60 → J' 84 q = J 84 q) : MG J' b s lc lm := by
  rcases h with ⟨h0, h1, h2, h3, h4⟩ | ⟨h0, h1, h2, h3, h4, h5, h6⟩
  · exact Or.inl ⟨h0, by rw [e _ (by omega) (by omega)]; exact h1, by rw [e _ (by omega) (by omega)]; exact h2, by rw [e _ (by omega) (by omega)]; exact h3, by rw [e _ (by omega) (by omega)]; exact h4⟩
  · refine Or.inr ⟨h0, h1, by rw [e _ (by omega) (by omega)]; exact h2, by rw [e _ (by omega) (by omega)]; exact h3, by rw [e _ (by omega) (by omega)]; exact h4, by rw [e _ (by omega) (by omega)]; exact h5, fun k hk i hi => ?_⟩
    have h20 := h1.1.2.1
    obtain ⟨r1, r2, r3⟩ := h0
    rw [e4 _ (by omega) (by omega)]
    exact h6 k hk i hi
theorem HTb_congr {s s' : Nat → Int} {ct ct' : Nat → Nat} {pl pl' t t' : Nat → Nat → Int} {n b : Nat} (hs : ∀ x, b ≤ x → s' x = s x) (hc : ∀ x, b ≤ x → ct' x = ct x) (hp : ∀ x, b ≤ x → ∀ k, k < ct x → pl' x k = pl x k) (ht : ∀ x, b ≤ x → ∀ k, k < ct x → t' x k = t x k) (h : HTb s ct pl t n b) : HTb s' ct' pl' t' n b := by
  intro h0 k hk
  rw [hs b (Nat.le_refl _)] at h0
  rw [hc b (Nat.le_refl _)] at hk
  have h1 := h h0 k hk
  rw [ht b (Nat.le_refl _) k hk]
  refine ⟨h1.1, fun m hm => ?_⟩
  have hm' : isNx s n (b + 1) m := by
    obtain ⟨a1, a2, a3, a4⟩ := hm
    exact ⟨a1, a2, fun x q1 q2 => by rw [← hs x (by omega)]; exact a3 x q1 q2, fun q => by rw [← hs m (by omega)]; exact a4 q⟩
  have h2 := h1.2 m hm'
  refine ⟨h2.1, fun q => ?_⟩
  obtain ⟨⟨j, hj, ej⟩, h4⟩ := h2.2 q
  have hbm := hm'.1
  rw [hc m (by omega)]
  have ef : ∀ j, j < ct m → absZ (pl' b k - pl' m j) + t' m j = absZ (pl b k - pl m j) + t m j := fun j hj => by rw [hp b (Nat.le_refl _) k hk, hp m (by omega) j hj, ht m (by omega) j hj]
  exact ⟨⟨j, hj, by show absZ (pl' b k - pl' m j) + t' m j = _; rw [ef j hj]; exact ej⟩, fun x hx => by show _ ≤ absZ (pl' b k - pl' m x) + t' m x; rw [ef x hx]; exact h4 x hx⟩
/-- the fold's list is empty at its very start alone -/
def nes (s : GSt) : Prop := s.2 ≠ [] ∨ 3300 < s.1
theorem gstep_ne {s : GSt} {q : Int × Int} (h : s.2 ≠ [] ∨ q.1 < s.1) : (gstep s q).2 ≠ [] := by
  unfold gstep
  split
  · simp
  · split
    · exact gins_ne _ _
    · rcases h with h | h
      · exact h
      · rename_i h1 h2; exact absurd h h1
theorem jst_ne {w base low one two cn : Int} {s : GSt} (hc : 0 ≤ cn ∧ cn ≤ 2) (h : nes s) : (jst w base low one two cn s).2 ≠ [] := by
  have := rnk_le (w := w) (n := hrs base two (hrs base one 0)) hc.1 hc.2
  refine gstep_ne ?_
  rcases h with h | h
  · exact Or.inl h
  · exact Or.inr (by show rnk w (hrs base two (hrs base one 0)) cn < s.1; omega)
theorem jIF_ne {w base rows low : Int} {a : Nat} : ∀ (f b : Nat) (s : GSt), s.2 ≠ [] → (jIF w base rows low a f b s).2 ≠ []
  | 0, _, _, h => h
  | f + 1, b, s, h => by
    unfold jIF
    refine jIF_ne f (b + 1) _ ?_
    split
    · exact jst_ne (by omega) (Or.inl h)
    · exact h
theorem jOF_ne {w base rows low : Int} : ∀ (f a : Nat) (s : GSt), s.2 ≠ [] → (jOF w base rows low f a s).2 ≠ []
  | 0, _, _, h => h
  | f + 1, a, s, h => by
    unfold jOF
    refine jOF_ne f (a + 1) _ ?_
    split
    · exact jIF_ne _ _ _ (jst_ne (by omega) (Or.inl h))
    · exact h
theorem jAll_ne {w base rows low : Int} {s : GSt} (h : nes s) : (jAll w base rows low s).2 ≠ [] := jOF_ne _ _ _ (jst_ne (by omega) h)
theorem gI_nes : nes gI := Or.inr (by decide)
theorem fgF_ne {w base rows lw : Int} : ∀ (f b : Nat) (s : GSt) (h : Int), nes s → (h = 0 ∨ s.2 ≠ []) → ((fgF w base rows lw f b s h).2 = 0 ∨ (fgF w base rows lw f b s h).1.2 ≠ [])
  | 0, _, _, _, _, h2 => h2
  | f + 1, b, s, h, h1, h2 => by
    unfold fgF
    split
    · exact fgF_ne f (b + 1) _ 1 (Or.inl (jAll_ne h1)) (Or.inr (jAll_ne h1))
    · exact fgF_ne f (b + 1) s h h1 h2
theorem gMr_ne (w base rows lw : Int) : (gMr w base rows lw).2 ≠ [] := by
  unfold gMr
  split
  · exact jAll_ne gI_nes
  · rename_i h
    unfold gMf at h ⊢
    split
    · rename_i h1; rw [if_pos h1] at h; exact absurd rfl h
    · rename_i h1
      rw [if_neg h1] at h
      rcases fgF_ne (w := w) (base := base) (rows := rows) (lw := lw) 72 0 gI 0 gI_nes (Or.inl rfl) with q | q
      · exact absurd q h
      · exact q
theorem MGood.s {J J' : zJ} {b : Nat} (h : MGood J J' b) : MGs J' b (gMr (J 78 (4 * b)) (J 77 0) (J 77 1) (J 78 (4 * b + 1))) (gMc (J 78 (4 * b)) (J 77 0) (J 77 1) (J 78 (4 * b + 1))) (gMm (J 78 (4 * b)) (J 77 0) (J 77 1) (J 78 (4 * b + 1))) := by
  rcases h with h | h
  · have := gMr_ne (J 78 (4 * b)) (J 77 0) (J 77 1) (J 78 (4 * b + 1))
    rw [h.1] at this
    exact absurd rfl this
  · exact h
/-- sizes, counts and places of a beat whose good settings are found -/
theorem MGood.pl {J J' : zJ} {b : Nat} (h : MGood J J' b) : (0 ≤ J' 82 b ∧ J' 82 b ≤ 3) ∧ (1 ≤ J' 83 b ∧ J' 83 b ≤ 20) ∧ (0 < J' 82 b → ∀ k, k < mct J' b → 0 ≤ mpl J' b k ∧ mpl J' b k ≤ 21) := by
  have hb := h.bnd
  obtain ⟨⟨r1, r2, r3⟩, h1, h2, h3, h4, h5, h6⟩ := h.s
  have hl : 0 < (gMr (J 78 (4 * b)) (J 77 0) (J 77 1) (J 78 (4 * b + 1))).2.length := List.length_pos_iff.mpr h1.2.1
  refine ⟨hb.2.2.1, ⟨by omega, hb.2.2.2.2⟩, fun hs k hk => ?_⟩
  have hk2 : k < (gMr (J 78 (4 * b)) (J 77 0) (J 77 1) (J 78 (4 * b + 1))).2.length := by unfold mct at hk; omega
  have h7 := h6 k hk2 0 (by omega)
  rw [Nat.add_zero] at h7
  have h8 := dg_B (m := ((gMr (J 78 (4 * b)) (J 77 0) (J 77 1) (J 78 (4 * b + 1))).1 % 16 + gMc (J 78 (4 * b)) (J 77 0) (J 77 1) (J 78 (4 * b + 1))).toNat - 1 - 0) (okL_at h1.1 hk2).1
  rw [← h7] at h8
  unfold mpl
  rw [zdiv_nn (by omega) (by omega) (by omega) (by omega)]
  omega
