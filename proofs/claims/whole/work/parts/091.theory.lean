/-! numbers, lists: the mathematics that both sides share (no machine here) -/
theorem up_ind {N : Nat} {P : Nat → Prop} (h : ∀ i, i ≤ N → (i < N → P (i + 1)) → P i) : ∀ i, i ≤ N → P i := by
  have key : ∀ n i, i + n = N → P i := by
    intro n
    induction n with
    | zero => intro i hi; exact h i (by omega) (fun q => by omega)
    | succ n ih => intro i hi; exact h i (by omega) (fun _ => ih (i + 1) (by omega))
  intro i hi
  exact key (N - i) i (by omega)
theorem dn_ind {P : Nat → Prop} (h : ∀ i, (∀ j, i = j + 1 → P j) → P i) : ∀ i, P i := by
  intro i
  induction i with
  | zero => exact h 0 (fun j hj => by omega)
  | succ n ih => exact h (n + 1) (fun j hj => by have : n = j := by omega
                                                 subst this; exact ih)
theorem zdiv_nn {x d : Int} (hx : 0 ≤ x) (hx2 : x < 2147483648) (hd : 0 < d) (hd2 : d < 2147483648) : zdiv x d = x / d := by
  obtain ⟨n, rfl⟩ := Int.eq_ofNat_of_zero_le hx
  obtain ⟨m, rfl⟩ := Int.eq_ofNat_of_zero_le (Int.le_of_lt hd)
  have h1 : n < 2 ^ 31 := by omega
  have h2 : m < 2 ^ 31 := by omega
  show (zI (n : Int) / zI (m : Int)).toInt = _
  rw [zI_nat, zI_nat, pk_div h1 (by omega) h2, nI_toInt (Nat.lt_of_le_of_lt (Nat.div_le_self n m) h1)]
  simp
theorem zrem_nn {x d : Int} (hx : 0 ≤ x) (hx2 : x < 2147483648) (hd : 0 < d) (hd2 : d < 2147483648) : zrem x d = x % d := by
  obtain ⟨n, rfl⟩ := Int.eq_ofNat_of_zero_le hx
  obtain ⟨m, rfl⟩ := Int.eq_ofNat_of_zero_le (Int.le_of_lt hd)
  have h1 : n < 2 ^ 31 := by omega
  have h2 : m < 2 ^ 31 := by omega
  show (zI (n : Int) - zI (n : Int) / zI (m : Int) * zI (m : Int)).toInt = _
  rw [zI_nat, zI_nat, pk_rem h1 (by omega) h2, nI_toInt (Nat.lt_of_le_of_lt (Nat.mod_le n m) h1)]
  simp
theorem zB_of (x : Int32) : zB x.toInt := zB_toInt x
theorem zandB (a b : Int) : zB (zand a b) := zB_toInt _
theorem zorB (a b : Int) : zB (zor a b) := zB_toInt _
theorem zxorB (a b : Int) : zB (zxor a b) := zB_toInt _
theorem zshlB (a b : Int) : zB (zshl a b) := zB_toInt _
theorem zshrB (a b : Int) : zB (zshr a b) := zB_toInt _
theorem zdivB (a b : Int) : zB (zdiv a b) := zB_toInt _
theorem zremB (a b : Int) : zB (zrem a b) := zB_toInt _
/-- the sound of a button, as the reference has it -/
def snd (base bt : Int) : Int :=
  let r := zrem (base + 7 * zdiv bt 6) 12
  if zrem bt 6 = 0 then zshl 1 (zrem (r + 4) 12)
  else if zrem bt 6 = 1 then zshl 1 r
  else if zrem bt 6 = 2 then zor (zor (zshl 1 r) (zshl 1 (zrem (r + 4) 12))) (zshl 1 (zrem (r + 7) 12))
  else if zrem bt 6 = 3 then zor (zor (zshl 1 r) (zshl 1 (zrem (r + 3) 12))) (zshl 1 (zrem (r + 7) 12))
  else if zrem bt 6 = 4 then zor (zor (zshl 1 r) (zshl 1 (zrem (r + 4) 12))) (zshl 1 (zrem (r + 10) 12))
  else zor (zor (zshl 1 r) (zshl 1 (zrem (r + 3) 12))) (zshl 1 (zrem (r + 9) 12))
/-- and as the class has it -/
def sndC (base bt : Int) : Int :=
  zand (zor (zshl (z_rowN (zrem bt 6).toNat) (zrem (base + 7 * zdiv bt 6) 12)) (zshr (z_rowN (zrem bt 6).toNat) (12 - zrem (base + 7 * zdiv bt 6) 12))) 4095
theorem snd_tab : ∀ b : Nat, b < 12 → ∀ k : Nat, k < 72 → sndC b k = snd b k ∧ 0 < snd b k ∧ snd b k ≤ 4095 := by decide +kernel
abbrev thr (rows bt : Int) : Prop := zand (zshr rows (zrem bt 6)) 1 = 1
theorem snd_eq {base : Int} {k : Nat} (h0 : 0 ≤ base) (h1 : base < 12) (hk : k < 72) : sndC base k = snd base k ∧ 0 < snd base k ∧ snd base k ≤ 4095 := by
  obtain ⟨n, rfl⟩ := Int.eq_ofNat_of_zero_le h0
  exact snd_tab n (by omega) k hk
/-- ordered insertion, the first twenty -/
def oi (a : Int) : List Int → List Int
  | [] => [a]
  | x :: xs => if a < x then a :: x :: xs else x :: oi a xs
def gins (c : Int) (xs : List Int) : List Int := (oi c xs).take 20
theorem oi_comm (a b : Int) : ∀ xs : List Int, oi a (oi b xs) = oi b (oi a xs)
  | [] => by
    simp only [oi]
    by_cases h1 : a < b
    · rw [if_pos h1, if_neg (by omega)]
    · by_cases h2 : b < a
      · rw [if_neg h1, if_pos h2]
      · rw [if_neg h1, if_neg h2, show a = b by omega]
  | x :: xs => by
    by_cases ha : a < x
    · by_cases hb : b < x
      · simp only [oi, if_pos ha, if_pos hb]
        by_cases h1 : a < b
        · rw [if_pos h1, if_neg (by omega)]
        · by_cases h2 : b < a
          · rw [if_neg h1, if_pos h2]
          · rw [if_neg h1, if_neg h2, show a = b by omega]
      · simp only [oi, if_pos ha, if_neg hb]
        rw [if_neg (by omega)]
    · by_cases hb : b < x
      · simp only [oi, if_neg ha, if_pos hb]
        rw [if_neg (by omega)]
      · simp only [oi, if_neg ha, if_neg hb]
        rw [oi_comm a b xs]
theorem take_oi (a : Int) : ∀ (n : Nat) (xs : List Int), (oi a (xs.take n)).take n = (oi a xs).take n
  | 0, _ => by simp
  | n + 1, [] => by simp
  | n + 1, x :: xs => by
    simp only [List.take_succ_cons, oi]
    by_cases h : a < x
    · rw [if_pos h, if_pos h]
      cases n with
      | zero => simp
      | succ m => simp [List.take_take, Nat.min_eq_left]
    · rw [if_neg h, if_neg h]
      simp only [List.take_succ_cons]
      rw [take_oi a n xs]
theorem gins_comm (a b : Int) (xs : List Int) : gins a (gins b xs) = gins b (gins a xs) := by
  unfold gins
  rw [take_oi, take_oi, oi_comm]
abbrev GSt : Type := Int × List Int
def gstep (s : GSt) (q : Int × Int) : GSt := if q.1 < s.1 then (q.1, [q.2]) else if q.1 = s.1 then (s.1, gins q.2 s.2) else s
theorem gins_nil (c : Int) : gins c [] = [c] := rfl
theorem gstep_comm (s : GSt) (x y : Int × Int) : gstep (gstep s x) y = gstep (gstep s y) x := by
  obtain ⟨r, xs⟩ := s
  obtain ⟨p, a⟩ := x
  obtain ⟨q, b⟩ := y
  have h0 : gins b [a] = gins a [b] := by rw [← gins_nil a, ← gins_nil b, gins_comm]
  by_cases h1 : p < r
  · by_cases h2 : q < r
    · by_cases h3 : p < q
      · simp [gstep, h1, h2, h3, show ¬ q < p by omega, show ¬ q = p by omega]
      · by_cases h4 : q < p
        · simp [gstep, h1, h2, h3, h4, show ¬ p = q by omega]
        · have : p = q := by omega
          subst this
          simp [gstep, h1, h0]
    · by_cases h3 : q = r
      · subst h3
        simp [gstep, h1, show ¬ q < p by omega, show ¬ q = p by omega]
      · simp [gstep, h1, h2, h3, show ¬ q < p by omega, show ¬ q = p by omega]
  · by_cases h2 : q < r
    · by_cases h3 : p = r
      · subst h3
        simp [gstep, h2, show ¬ p < q by omega, show ¬ p = q by omega]
      · simp [gstep, h1, h2, h3, show ¬ p < q by omega, show ¬ p = q by omega]
    · by_cases h3 : p = r
      · by_cases h4 : q = r
        · simp [gstep, h3, h4, gins_comm]
        · simp [gstep, h3, h2, h4]
      · by_cases h4 : q = r
        · simp [gstep, h1, h3, h4]
        · simp [gstep, h1, h2, h3, h4]
theorem gfold_perm {l₁ l₂ : List (Int × Int)} (h : List.Perm l₁ l₂) : ∀ s : GSt, l₁.foldl gstep s = l₂.foldl gstep s := by
  induction h with
  | nil => intro s; rfl
  | cons x _ ih => intro s; exact ih _
  | swap x y l => intro s; simp only [List.foldl_cons]; rw [gstep_comm]
  | trans _ _ ih1 ih2 => intro s; rw [ih1, ih2]
/-- sorted -/
abbrev srtd (xs : List Int) : Prop := xs.Pairwise (· ≤ ·)
theorem oi_mem {a b : Int} : ∀ {xs : List Int}, b ∈ oi a xs → b = a ∨ b ∈ xs
  | [], h => Or.inl (List.mem_singleton.mp h)
  | x :: xs, h => by
    unfold oi at h
    by_cases e : a < x
    · rw [if_pos e] at h
      rcases List.mem_cons.mp h with h | h
      · exact Or.inl h
      · exact Or.inr h
    · rw [if_neg e] at h
      rcases List.mem_cons.mp h with h | h
      · exact Or.inr (h ▸ List.mem_cons_self)
      · rcases oi_mem h with h | h
        · exact Or.inl h
        · exact Or.inr (List.mem_cons_of_mem _ h)
theorem oi_srtd {a : Int} : ∀ {xs : List Int}, srtd xs → srtd (oi a xs)
  | [], _ => by simp [oi, srtd]
  | x :: xs, h => by
    unfold oi
    have h1 := List.pairwise_cons.mp h
    by_cases e : a < x
    · rw [if_pos e]
      refine List.pairwise_cons.mpr ⟨fun b hb => ?_, h⟩
      rcases List.mem_cons.mp hb with hb | hb
      · omega
      · have := h1.1 b hb; omega
    · rw [if_neg e]
      refine List.pairwise_cons.mpr ⟨fun b hb => ?_, oi_srtd h1.2⟩
      rcases oi_mem hb with hb | hb
      · omega
      · exact h1.1 b hb
theorem gins_srtd {a : Int} {xs : List Int} (h : srtd xs) : srtd (gins a xs) := List.Pairwise.sublist (List.take_sublist _ _) (oi_srtd h)
theorem oi_len (a : Int) : ∀ xs : List Int, (oi a xs).length = xs.length + 1
  | [] => rfl
  | x :: xs => by
    unfold oi
    by_cases e : a < x
    · rw [if_pos e]; rfl
    · rw [if_neg e]; simp only [List.length_cons, oi_len a xs]
theorem gins_len (a : Int) (xs : List Int) : (gins a xs).length = min (xs.length + 1) 20 := by
  unfold gins
  rw [List.length_take, oi_len]; omega
/-- where it comes to stand -/
theorem oi_at {c : Int} : ∀ (xs : List Int) (p : Nat), p ≤ xs.length → (∀ j, j < p → xs.getD j 0 ≤ c) → (∀ j, p ≤ j → j < xs.length → c < xs.getD j 0) → oi c xs = xs.take p ++ c :: xs.drop p
  | [], p, hp, _, _ => by
    have : p = 0 := by simpa using hp
    subst this
    rfl
  | x :: xs, 0, _, _, h2 => by
    have : c < x := by simpa using h2 0 (Nat.le_refl _) (by simp)
    unfold oi
    rw [if_pos this]
    rfl
  | x :: xs, p + 1, hp, h1, h2 => by
    have : ¬ c < x := by have := h1 0 (by omega); simp at this; omega
    unfold oi
    rw [if_neg this, oi_at xs p (by simpa using hp) (fun j hj => by simpa using h1 (j + 1) (by omega)) (fun j hj hl => by simpa using h2 (j + 1) (by omega) (by simpa using hl))]
    simp
theorem gins_get {c : Int} {xs : List Int} {p : Nat} (hp : p ≤ xs.length) (h1 : ∀ j, j < p → xs.getD j 0 ≤ c) (h2 : ∀ j, p ≤ j → j < xs.length → c < xs.getD j 0) (k : Nat) (hk : k < (gins c xs).length) :
    (gins c xs).getD k 0 = if k < p then xs.getD k 0 else if k = p then c else xs.getD (k - 1) 0 := by
  rw [gins_len] at hk
  have hk2 : k < 20 := by omega
  unfold gins
  rw [oi_at xs p hp h1 h2]
  simp only [List.getD_eq_getElem?_getD]
  rw [List.getElem?_take_of_lt hk2]
  by_cases e : k < p
  · rw [if_pos e, List.getElem?_append_left (by simp; omega), List.getElem?_take_of_lt e]
  · rw [if_neg e, List.getElem?_append_right (by simp; omega)]
    rw [List.length_take, Nat.min_eq_left hp]
    by_cases e2 : k = p
    · rw [if_pos e2, e2, Nat.sub_self]; rfl
    · rw [if_neg e2]
      obtain ⟨q, hq⟩ : ∃ q, k - p = q + 1 := ⟨k - p - 1, by omega⟩
      rw [hq, List.getElem?_cons_succ, List.getElem?_drop, show p + q = k - 1 by omega]
theorem srtd_le {xs : List Int} (h : srtd xs) {i j : Nat} (hij : i ≤ j) (hj : j < xs.length) : xs.getD i 0 ≤ xs.getD j 0 := by
  rcases Nat.lt_or_ge i j with hlt | hge
  · have := List.pairwise_iff_getElem.mp h i j (by omega) hj hlt
    simp only [List.getD_eq_getElem?_getD, List.getElem?_eq_getElem (show i < xs.length by omega), List.getElem?_eq_getElem hj, Option.getD_some]
    exact this
  · have : i = j := by omega
    rw [this]; exact Int.le_refl _
