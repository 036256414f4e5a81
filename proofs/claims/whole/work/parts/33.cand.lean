/-! a setting as the reference presses it: the buttons rising; its code's places -/
def prs (x : Int) (xs : List Int) : List Int := if x < 0 then xs else oi x xs
def hrs (base x h : Int) : Int := if x < 0 then h else zor h (snd base x)
/-- what judge may be asked: no chord button, one, two -/
def cmb (one two : Int) (c : Int) : Prop := (one = -1 ∧ two = -1 ∧ c = 0) ∨ ((0 ≤ one ∧ one ≤ 71) ∧ two = -1 ∧ c = 1) ∨ ((0 ≤ one ∧ one ≤ 71) ∧ (0 ≤ two ∧ two ≤ 71) ∧ c = 2)
def Cand (xs : List Int) (n : Nat) (c : Int) : Prop := xs.length = n ∧ srtd xs ∧ (∀ k, k < n → 0 ≤ xs.getD k 0 ∧ xs.getD k 0 ≤ 71) ∧ (∀ i, i < n → xs.getD i 0 = c / 128 ^ (n - 1 - i) % 128) ∧ 0 ≤ c ∧ c < 128 ^ n
theorem cand0 : Cand [] 0 0 := ⟨rfl, List.Pairwise.nil, fun k h => absurd h (Nat.not_lt_zero k), fun k h => absurd h (Nat.not_lt_zero k), by decide, by decide⟩
theorem cand1 {x : Int} (h0 : 0 ≤ x) (h1 : x ≤ 71) : Cand [x] 1 x := by
  refine ⟨rfl, List.pairwise_singleton _ _, fun k hk => ?_, fun k hk => ?_, h0, by rw [show (128 : Int) ^ 1 = 128 by decide]; omega⟩
  · rw [show k = 0 by omega]; exact ⟨h0, h1⟩
  · rw [show k = 0 by omega]
    show x = x / 128 ^ 0 % 128
    rw [Int.pow_zero]; omega
theorem cand2 {a b : Int} (h0 : 0 ≤ a) (h1 : a ≤ b) (h2 : b ≤ 71) : Cand [a, b] 2 (a * 128 + b) := by
  refine ⟨rfl, ?_, fun k hk => ?_, fun k hk => ?_, by omega, by rw [show (128 : Int) ^ 2 = 16384 by decide]; omega⟩
  · simp [srtd]; exact h1
  · rcases (show k = 0 ∨ k = 1 by omega) with rfl | rfl
    · exact ⟨h0, by show a ≤ 71; omega⟩
    · exact ⟨by show 0 ≤ b; omega, h2⟩
  · rcases (show k = 0 ∨ k = 1 by omega) with rfl | rfl
    · show a = (a * 128 + b) / 128 ^ 1 % 128
      rw [show (128 : Int) ^ 1 = 128 by decide]; omega
    · show b = (a * 128 + b) / 128 ^ 0 % 128
      rw [show (128 : Int) ^ 0 = 1 by decide]; omega
theorem cand3 {a b c : Int} (h0 : 0 ≤ a) (h1 : a ≤ b) (h2 : b ≤ c) (h3 : c ≤ 71) : Cand [a, b, c] 3 ((a * 128 + b) * 128 + c) := by
  refine ⟨rfl, ?_, fun k hk => ?_, fun k hk => ?_, by omega, by rw [show (128 : Int) ^ 3 = 2097152 by decide]; omega⟩
  · simp [srtd]; omega
  · rcases (show k = 0 ∨ k = 1 ∨ k = 2 by omega) with rfl | rfl | rfl
    · exact ⟨h0, by show a ≤ 71; omega⟩
    · exact ⟨by show 0 ≤ b; omega, by show b ≤ 71; omega⟩
    · exact ⟨by show 0 ≤ c; omega, h3⟩
  · rcases (show k = 0 ∨ k = 1 ∨ k = 2 by omega) with rfl | rfl | rfl
    · show a = ((a * 128 + b) * 128 + c) / 128 ^ 2 % 128
      rw [show (128 : Int) ^ 2 = 16384 by decide]; omega
    · show b = ((a * 128 + b) * 128 + c) / 128 ^ 1 % 128
      rw [show (128 : Int) ^ 1 = 128 by decide]; omega
    · show c = ((a * 128 + b) * 128 + c) / 128 ^ 0 % 128
      rw [show (128 : Int) ^ 0 = 1 by decide]; omega
theorem oi2 {x y : Int} (hx : 0 ≤ x ∧ x ≤ 71) (hy : 0 ≤ y ∧ y ≤ 71) : ∃ a b, oi y (oi x []) = [a, b] ∧ 0 ≤ a ∧ a ≤ b ∧ b ≤ 71 ∧ a = min x y ∧ b = max x y := by
  by_cases h : y < x
  · exact ⟨y, x, by simp [oi, h], by omega, by omega, by omega, by omega, by omega⟩
  · exact ⟨x, y, by simp [oi, h], by omega, by omega, by omega, by omega, by omega⟩
theorem oi3 {x y z : Int} (hx : 0 ≤ x ∧ x ≤ 71) (hy : 0 ≤ y ∧ y ≤ 71) (hz : 0 ≤ z ∧ z ≤ 71) : ∃ a b c, oi z (oi y (oi x [])) = [a, b, c] ∧ 0 ≤ a ∧ a ≤ b ∧ b ≤ c ∧ c ≤ 71 ∧ a = min x (min y z) ∧ c = max x (max y z) ∧ a + b + c = x + y + z := by
  obtain ⟨a, b, e, h1, h2, h3, h4, h5⟩ := oi2 hx hy
  rw [e]
  by_cases q1 : z < a
  · exact ⟨z, a, b, by simp [oi, q1], by omega, by omega, by omega, by omega, by omega, by omega, by omega⟩
  · by_cases q2 : z < b
    · exact ⟨a, z, b, by simp [oi, q1, q2], by omega, by omega, by omega, by omega, by omega, by omega, by omega⟩
    · exact ⟨a, b, z, by simp [oi, q1, q2], by omega, by omega, by omega, by omega, by omega, by omega, by omega⟩
theorem cand_of {low one two c : Int} (hl : bt1 low) (h : cmb one two c) : Cand (prs two (prs one (prs low []))) (c.toNat + (bz (0 ≤ low)).toNat) (pkA low one two) := by
  obtain ⟨l1, l2⟩ := hl
  by_cases hlow : low < 0
  · have el : low = -1 := by omega
    have eb : bz (0 ≤ low) = 0 := bz_0.mpr (by omega)
    have ep : prs low [] = [] := by unfold prs; rw [if_pos hlow]
    rw [ep, eb]
    rcases h with ⟨rfl, rfl, rfl⟩ | ⟨h1, rfl, rfl⟩ | ⟨h1, h2, rfl⟩
    · have : pkA low (-1) (-1) = 0 := by rw [el]; decide
      rw [this]; exact cand0
    · have e1 : prs one [] = [one] := by unfold prs; rw [if_neg (by omega)]; rfl
      have e2 : prs (-1) [one] = [one] := by unfold prs; rw [if_pos (by omega)]
      have e3 : pkA low one (-1) = one := by unfold pkA; omega
      rw [e1, e2, e3]; exact cand1 h1.1 h1.2
    · have e1 : prs one [] = oi one [] := by unfold prs; rw [if_neg (by omega)]
      have e2 : prs two (oi one []) = oi two (oi one []) := by unfold prs; rw [if_neg (by omega)]
      obtain ⟨a, b, e, q1, q2, q3, q4, q5⟩ := oi2 h1 h2
      have e3 : pkA low one two = a * 128 + b := by unfold pkA; omega
      rw [e1, e2, e, e3]; exact cand2 q1 q2 q3
  · have eb : bz (0 ≤ low) = 1 := bz_1.mpr (by omega)
    have ep : prs low [] = oi low [] := by unfold prs; rw [if_neg hlow]
    rw [ep, eb]
    rcases h with ⟨rfl, rfl, rfl⟩ | ⟨h1, rfl, rfl⟩ | ⟨h1, h2, rfl⟩
    · have e1 : prs (-1) (oi low []) = [low] := by unfold prs; rw [if_pos (by omega)]; rfl
      have e2 : prs (-1) [low] = [low] := by unfold prs; rw [if_pos (by omega)]
      have e3 : pkA low (-1) (-1) = low := by unfold pkA; omega
      rw [e1, e2, e3]; exact cand1 (by omega) (by omega)
    · have e1 : prs one (oi low []) = oi one (oi low []) := by unfold prs; rw [if_neg (by omega)]
      obtain ⟨a, b, e, q1, q2, q3, q4, q5⟩ := oi2 (x := low) ⟨by omega, by omega⟩ h1
      have e2 : prs (-1) [a, b] = [a, b] := by unfold prs; rw [if_pos (by omega)]
      have e3 : pkA low one (-1) = a * 128 + b := by unfold pkA; omega
      rw [e1, e, e2, e3]; exact cand2 q1 q2 q3
    · have e1 : prs one (oi low []) = oi one (oi low []) := by unfold prs; rw [if_neg (by omega)]
      have e2 : prs two (oi one (oi low [])) = oi two (oi one (oi low [])) := by unfold prs; rw [if_neg (by omega)]
      obtain ⟨a, b, d, e, q1, q2, q3, q4, q5, q6, q7⟩ := oi3 (x := low) ⟨by omega, by omega⟩ h1 h2
      have e3 : pkA low one two = (a * 128 + b) * 128 + d := by unfold pkA; omega
      rw [e1, e2, e, e3]; exact cand3 q1 q2 q3 q4
/-- codes of one size: the lesser code is the one that has the lesser place first -/
theorem lex_code {f g : Nat → Int} {n : Nat} (hn : n ≤ 3) {c d : Int} (hc : 0 ≤ c ∧ c < 128 ^ n) (hd : 0 ≤ d ∧ d < 128 ^ n) (hf : ∀ i, i < n → f i = c / 128 ^ (n - 1 - i) % 128) (hg : ∀ i, i < n → g i = d / 128 ^ (n - 1 - i) % 128) : lexLt f g n ↔ c < d := by
  have p0 : (128 : Int) ^ 0 = 1 := by decide
  have p1 : (128 : Int) ^ 1 = 128 := by decide
  have p2 : (128 : Int) ^ 2 = 16384 := by decide
  have p3 : (128 : Int) ^ 3 = 2097152 := by decide
  match n, hn with
  | 0, _ =>
    rw [p0] at hc hd
    constructor
    · rintro ⟨k, hk, -⟩; exact absurd hk (Nat.not_lt_zero k)
    · intro h; omega
  | 1, _ =>
    rw [p1] at hc hd
    have f0 := hf 0 (by omega); have g0 := hg 0 (by omega)
    simp only [Nat.sub_self, Nat.sub_zero, p0] at f0 g0
    constructor
    · rintro ⟨k, hk, h1, h2⟩
      rw [show k = 0 by omega] at h2
      omega
    · intro h
      exact ⟨0, by omega, fun j hj => absurd hj (Nat.not_lt_zero j), by omega⟩
  | 2, _ =>
    rw [p2] at hc hd
    have f0 := hf 0 (by omega); have g0 := hg 0 (by omega)
    have f1 := hf 1 (by omega); have g1 := hg 1 (by omega)
    simp only [show 2 - 1 - 0 = 1 from rfl, show 2 - 1 - 1 = 0 from rfl, p0, p1] at f0 g0 f1 g1
    constructor
    · rintro ⟨k, hk, h1, h2⟩
      rcases (show k = 0 ∨ k = 1 by omega) with rfl | rfl
      · omega
      · have := h1 0 (by omega); omega
    · intro h
      by_cases e : f 0 = g 0
      · exact ⟨1, by omega, fun j hj => by rw [show j = 0 by omega]; exact e, by omega⟩
      · exact ⟨0, by omega, fun j hj => absurd hj (Nat.not_lt_zero j), by omega⟩
  | 3, _ =>
    rw [p3] at hc hd
    have f0 := hf 0 (by omega); have g0 := hg 0 (by omega)
    have f1 := hf 1 (by omega); have g1 := hg 1 (by omega)
    have f2 := hf 2 (by omega); have g2 := hg 2 (by omega)
    simp only [show 3 - 1 - 0 = 2 from rfl, show 3 - 1 - 1 = 1 from rfl, show 3 - 1 - 2 = 0 from rfl, p0, p1, p2] at f0 g0 f1 g1 f2 g2
    constructor
    · rintro ⟨k, hk, h1, h2⟩
      rcases (show k = 0 ∨ k = 1 ∨ k = 2 by omega) with rfl | rfl | rfl
      · omega
      · have := h1 0 (by omega); omega
      · have := h1 0 (by omega); have := h1 1 (by omega); omega
    · intro h
      by_cases e : f 0 = g 0
      · by_cases e1 : f 1 = g 1
        · refine ⟨2, by omega, fun j hj => ?_, by omega⟩
          rcases (show j = 0 ∨ j = 1 by omega) with rfl | rfl
          · exact e
          · exact e1
        · exact ⟨1, by omega, fun j hj => by rw [show j = 0 by omega]; exact e, by omega⟩
      · exact ⟨0, by omega, fun j hj => absurd hj (Nat.not_lt_zero j), by omega⟩
