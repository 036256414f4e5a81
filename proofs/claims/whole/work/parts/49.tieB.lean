/-! one way of the bellows; one count of changes -/
def badW (n t : Int) (u mk : Nat → Int) (st room : Int) (N : Nat) : Prop := ∃ b, b < N ∧ ((trn n t b ∧ mk b = 3) ∨ ¬ (0 ≤ airN n t u st (b + 1) ∧ airN n t u st (b + 1) ≤ room))
theorem turn_tab : z_turnN 0 = 3 ∧ z_turnN 1 = 0 ∧ z_turnN 2 = 1 := by decide +kernel
theorem cs_bad {n t : Int} {u mk mz : Nat → Int} {st room : Int} (hz : mz 0 = 3 ∧ mz 1 = 0 ∧ mz 2 = 1 ∧ mz 3 = 1000) : ∀ N : Nat, N ≤ 8 → (∀ b, b < N → 0 ≤ mk b ∧ mk b ≤ 3) → 0 ≤ csN n t u mk mz st room N ∧ (¬ badW n t u mk st room N → csN n t u mk mz st room N = sumN (prc n t mk) N ∧ csN n t u mk mz st room N ≤ 3 * N) ∧ (badW n t u mk st room N → 1000 ≤ csN n t u mk mz st room N)
  | 0, _, _ => ⟨Int.le_refl _, fun _ => ⟨rfl, by show (0 : Int) ≤ _; omega⟩, fun ⟨b, hb, _⟩ => by omega⟩
  | N + 1, h8, hm => by
    obtain ⟨i0, i1, i2⟩ := cs_bad (n := n) (t := t) (u := u) (st := st) (room := room) hz N (by omega) (fun b hb => hm b (by omega))
    have hmN := hm N (by omega)
    obtain ⟨t0, t1, t2⟩ := turn_tab
    obtain ⟨z0, z1, z2, z3⟩ := hz
    have e1 : csN n t u mk mz st room (N + 1) = csN n t u mk mz st room N + (if trn n t N then mz (mk N).toNat else 0) + (if 0 ≤ airN n t u st (N + 1) ∧ airN n t u st (N + 1) ≤ room then 0 else 1000) := rfl
    have e2 : sumN (prc n t mk) (N + 1) = sumN (prc n t mk) N + (if trn n t N then z_turnN (mk N).toNat else 0) := rfl
    have hmz : 0 ≤ mz (mk N).toNat ∧ (mk N = 3 → mz (mk N).toNat = 1000) ∧ (¬ mk N = 3 → mz (mk N).toNat = z_turnN (mk N).toNat ∧ mz (mk N).toNat ≤ 3) := by
      rcases (show mk N = 0 ∨ mk N = 1 ∨ mk N = 2 ∨ mk N = 3 by omega) with e | e | e | e <;> rw [e]
      · show 0 ≤ mz 0 ∧ (_ → mz 0 = 1000) ∧ (_ → mz 0 = z_turnN 0 ∧ mz 0 ≤ 3)
        rw [z0, t0]; omega
      · show 0 ≤ mz 1 ∧ (_ → mz 1 = 1000) ∧ (_ → mz 1 = z_turnN 1 ∧ mz 1 ≤ 3)
        rw [z1, t1]; omega
      · show 0 ≤ mz 2 ∧ (_ → mz 2 = 1000) ∧ (_ → mz 2 = z_turnN 2 ∧ mz 2 ≤ 3)
        rw [z2, t2]; omega
      · show 0 ≤ mz 3 ∧ (_ → mz 3 = 1000) ∧ (_ → mz 3 = z_turnN 3 ∧ mz 3 ≤ 3)
        rw [z3]; omega
    have hA : 0 ≤ (if trn n t N then mz (mk N).toNat else 0) := by split <;> omega
    have hB : 0 ≤ (if 0 ≤ airN n t u st (N + 1) ∧ airN n t u st (N + 1) ≤ room then (0 : Int) else 1000) := by split <;> omega
    rw [e1]
    refine ⟨by omega, fun hb => ?_, fun hb => ?_⟩
    · have hbN : ¬ badW n t u mk st room N := fun ⟨b, q1, q2⟩ => hb ⟨b, by omega, q2⟩
      obtain ⟨j1, j2⟩ := i1 hbN
      have hx : ¬ ((trn n t N ∧ mk N = 3) ∨ ¬ (0 ≤ airN n t u st (N + 1) ∧ airN n t u st (N + 1) ≤ room)) := fun q => hb ⟨N, by omega, q⟩
      have hy : 0 ≤ airN n t u st (N + 1) ∧ airN n t u st (N + 1) ≤ room := by
        by_cases q : 0 ≤ airN n t u st (N + 1) ∧ airN n t u st (N + 1) ≤ room
        · exact q
        · exact absurd (Or.inr q) hx
      rw [if_pos hy, e2, ← j1]
      by_cases ht : trn n t N
      · have h3 : ¬ mk N = 3 := fun q => hx (Or.inl ⟨ht, q⟩)
        have := hmz.2.2 h3
        rw [if_pos ht, if_pos ht, this.1]
        refine ⟨by omega, ?_⟩
        rw [← this.1]; push_cast; omega
      · rw [if_neg ht, if_neg ht]
        refine ⟨by omega, ?_⟩
        push_cast; omega
    · obtain ⟨b, q1, q2⟩ := hb
      by_cases e : b = N
      · subst e
        rcases q2 with ⟨q3, q4⟩ | q3
        · rw [if_pos q3, hmz.2.1 q4]; omega
        · rw [if_neg q3]; omega
      · have := i2 ⟨b, by omega, q2⟩
        omega
theorem pkN_room {n t : Int} {u : Nat → Int} {st room : Int} : ∀ N : Nat, pkN n t u st N ≤ room ↔ st ≤ room ∧ ∀ b, b < N → airN n t u st (b + 1) ≤ room
  | 0 => ⟨fun h => ⟨h, fun b hb => absurd hb (Nat.not_lt_zero b)⟩, fun h => h.1⟩
  | N + 1 => by
    have ih := pkN_room (n := n) (t := t) (u := u) (st := st) (room := room) N
    show max (pkN n t u st N) (airN n t u st (N + 1)) ≤ room ↔ _
    constructor
    · intro h
      obtain ⟨h1, h2⟩ := ih.mp (by omega)
      refine ⟨h1, fun b hb => ?_⟩
      by_cases e : b = N
      · rw [e]; omega
      · exact h2 b (by omega)
    · rintro ⟨h1, h2⟩
      have h3 := ih.mpr ⟨h1, fun b hb => h2 b (by omega)⟩
      have h4 := h2 N (by omega)
      omega
theorem bad_iff {n t : Int} {u mk : Nat → Int} {st room : Int} {N : Nat} (hr : st ≤ room) : ¬ badW n t u mk st room N ↔ (¬ tied n t mk N ∧ ∀ b, b < N → 0 ≤ airN n t u st (b + 1)) ∧ pkN n t u st N ≤ room := by
  rw [pkN_room]
  constructor
  · intro h
    have hy : ∀ b, b < N → 0 ≤ airN n t u st (b + 1) ∧ airN n t u st (b + 1) ≤ room := fun b hb => by
      by_cases q : 0 ≤ airN n t u st (b + 1) ∧ airN n t u st (b + 1) ≤ room
      · exact q
      · exact absurd ⟨b, hb, Or.inr q⟩ h
    exact ⟨⟨fun ⟨b, q1, q2, q3⟩ => h ⟨b, q1, Or.inl ⟨q3, q2⟩⟩, fun b hb => (hy b hb).1⟩, hr, fun b hb => (hy b hb).2⟩
  · rintro ⟨⟨h1, h2⟩, _, h3⟩ ⟨b, q1, q2⟩
    rcases q2 with ⟨q3, q4⟩ | q3
    · exact h1 ⟨b, q1, q4, q3⟩
    · exact q3 ⟨h2 b q1, h3 b q1⟩
theorem best_uni {P : Nat → Prop} {f g : Nat → Int} {T : Nat} {w p w' p' : Int} (hPg : ∀ t, t < T → (P t ↔ g t < 1000)) (hf : ∀ t, t < T → P t → f t = g t) (h : Best P f T w p) (h' : BestM g T w' p') : w = w' ∧ (¬ w = -1 → p = p') := by
  rcases h with ⟨a1, a2, a3⟩ | ⟨x, a1, a2, a3, a4, a5, a6⟩
  · rcases h' with ⟨b1, b2, b3⟩ | ⟨y, b1, b2, b3, b4, b5, b6⟩
    · exact ⟨by omega, fun q => absurd a1 q⟩
    · exact absurd ((hPg y b2).mpr b4) (a3 y b2)
  · rcases h' with ⟨b1, b2, b3⟩ | ⟨y, b1, b2, b3, b4, b5, b6⟩
    · have := (hPg x a2).mp a3
      have := b3 x a2
      omega
    · have hPy := (hPg y b2).mpr b4
      have e : x = y := by
        rcases Nat.lt_trichotomy x y with q | q | q
        · have c1 := b6 x q
          have c2 := a5 y b2 hPy
          rw [hf x a2 a3, hf y b2 hPy] at c2
          omega
        · exact q
        · have c1 := a6 y q hPy
          have c2 := b5 x a2
          rw [hf x a2 a3, hf y b2 hPy] at c1
          omega
      subst e
      exact ⟨by omega, fun _ => by rw [a4, b3, hf x a2 a3]⟩
theorem trn_congr {n n' t : Int} (h : n = n') : trn n t = trn n' t := by rw [h]
theorem air_congr {n t : Int} {u u' : Nat → Int} {st : Int} : ∀ {b : Nat}, (∀ x, x < b → u x = u' x) → airN n t u st b = airN n t u' st b
  | 0, _ => rfl
  | b + 1, h => by
    show airN n t u st b + mvZ n t u b = airN n t u' st b + mvZ n t u' b
    rw [air_congr (fun x hx => h x (by omega))]
    unfold mvZ
    rw [h b (by omega)]
theorem cs_congr {n t : Int} {u u' mk mk' mz : Nat → Int} {st room : Int} : ∀ {b : Nat}, (∀ x, x < b → u x = u' x) → (∀ x, x < b → mk x = mk' x) → csN n t u mk mz st room b = csN n t u' mk' mz st room b
  | 0, _, _ => rfl
  | b + 1, h, k => by
    unfold csN
    rw [cs_congr (fun x hx => h x (by omega)) (fun x hx => k x (by omega)), k b (by omega), air_congr (b := b + 1) h]
/-- the two numbers of a way: what the class holds, what the reference costs -/
theorem way_tie {J J' : zJ} {n : Nat} {way : Int} (hn : n ≤ 8) (hB : BelOK J n) (hu : ∀ b, b < n → J 12 b = J' 89 b) (hmk : ∀ b, b < n → J 13 b = mkM J' b ∧ 0 ≤ J 13 b ∧ J 13 b ≤ 3) (hz : J' 90 0 = 3 ∧ J' 90 1 = 0 ∧ J' 90 2 = 1 ∧ J' 90 3 = 1000) (h4 : J 1 4 = J' 77 4) (hr : J 1 4 ≤ J 1 3) (hW : BestM (csM J' n (J 1 3)) (2 ^ n) way (J' 76 17)) : J 11 3 = way ∧ (¬ J 11 3 = -1 → J 11 4 = J' 76 17) := by
  have ecs : ∀ t, csM J' n (J 1 3) t = csN (n : Int) t (J 12) (J 13) (J' 90) (J 1 4) (J 1 3) n := fun t => by
    unfold csM
    rw [← h4]
    exact (cs_congr (fun x hx => hu x hx) (fun x hx => (hmk x hx).1)).symm
  have hcb : ∀ t : Nat, _ := fun t => cs_bad (n := (n : Int)) (t := (t : Int)) (u := J 12) (mk := J 13) (mz := J' 90) (st := J 1 4) (room := J 1 3) hz n hn (fun b hb => (hmk b hb).2)
  have hP : ∀ t : Nat, (okW (J 11 2) (J 12) (J 13) (J 1 4) n t ∧ pkN (J 11 2) t (J 12) (J 1 4) n ≤ J 1 3) ↔ csM J' n (J 1 3) t < 1000 := fun t => by
    rw [hB.1, ecs t]
    unfold okW
    rw [← bad_iff hr]
    obtain ⟨c0, c1, c2⟩ := hcb t
    constructor
    · intro q
      have := (c1 q).2
      omega
    · intro q q2
      have := c2 q2
      omega
  have hf : ∀ t : Nat, (okW (J 11 2) (J 12) (J 13) (J 1 4) n t ∧ pkN (J 11 2) t (J 12) (J 1 4) n ≤ J 1 3) → sumN (prc (J 11 2) t (J 13)) n = csM J' n (J 1 3) t := fun t q => by
    rw [hB.1] at q ⊢
    unfold okW at q
    rw [← bad_iff hr] at q
    rw [ecs t, ((hcb t).2.1 q).1]
  exact best_uni (fun t _ => hP t) (fun t _ => hf t) hB.2.2.1 hW
/-- what the bellows want -/
theorem want_tie {J J' : zJ} {n : Nat} {r : Int} (hn : n ≤ 8) (hB : BelOK J n) (hu : ∀ b, b < n → J 12 b = J' 89 b) (hmk : ∀ b, b < n → J 13 b = mkM J' b ∧ 0 ≤ J 13 b ∧ J 13 b ≤ 3) (hz : J' 90 0 = 3 ∧ J' 90 1 = 0 ∧ J' 90 2 = 1 ∧ J' 90 3 = 1000) (h4 : J 1 4 = J' 77 4)
    (hw : (1 ≤ r ∧ r ≤ 400 ∧ max (J 1 4) 1 ≤ r ∧ (∃ t, t < 2 ^ n ∧ csM J' n r t < 1000) ∧ ∀ m : Int, max (J 1 4) 1 ≤ m → m < r → ∀ t, t < 2 ^ n → 1000 ≤ csM J' n m t) ∨ (r = -3 ∧ ∀ m : Int, max (J 1 4) 1 ≤ m → m < 401 → ∀ t, t < 2 ^ n → 1000 ≤ csM J' n m t)) : (J 11 5 ≤ 400 → J 11 5 = r) ∧ (¬ J 11 5 ≤ 400 → r = -3) := by
  have ecs : ∀ (m : Int) (t : Nat), csM J' n m t = csN (n : Int) t (J 12) (J 13) (J' 90) (J 1 4) m n := fun m t => by
    unfold csM
    rw [← h4]
    exact (cs_congr (fun x hx => hu x hx) (fun x hx => (hmk x hx).1)).symm
  have hP : ∀ (m : Int) (t : Nat), J 1 4 ≤ m → ((okW (J 11 2) (J 12) (J 13) (J 1 4) n t ∧ pkN (J 11 2) t (J 12) (J 1 4) n ≤ m) ↔ csM J' n m t < 1000) := fun m t hr => by
    rw [hB.1, ecs m t]
    unfold okW
    rw [← bad_iff hr]
    obtain ⟨c0, c1, c2⟩ := cs_bad (n := (n : Int)) (t := (t : Int)) (u := J 12) (mk := J 13) (mz := J' 90) (st := J 1 4) (room := m) hz n hn (fun b hb => (hmk b hb).2)
    constructor
    · intro q
      have := (c1 q).2
      omega
    · intro q q2
      have := c2 q2
      omega
  obtain ⟨l1, l2⟩ := hB.2.2.2
  have hst : ∀ t : Nat, J 1 4 ≤ pkN (J 11 2) t (J 12) (J 1 4) n := fun t => ((pkN_room (room := pkN (J 11 2) t (J 12) (J 1 4) n) n).mp (Int.le_refl _)).1
  have ach : J 11 5 ≤ 400 → ∃ t, t < 2 ^ n ∧ csM J' n (J 11 5) t < 1000 ∧ max (J 1 4) 1 ≤ J 11 5 := fun hv => by
    rcases l2 with e | ⟨t, q1, q2, q3⟩
    · omega
    · have q3 : J 11 5 = max (pkN (J 11 2) t (J 12) (J 1 4) n) 1 := q3
      have := hst t
      exact ⟨t, q1, (hP _ t (by omega)).mp ⟨q2, by omega⟩, by omega⟩
  rcases hw with ⟨r1, r2, r3, ⟨t, r4, r5⟩, r6⟩ | ⟨r1, r2⟩
  · have hok := (hP r t (by omega)).mpr r5
    have hle : J 11 5 ≤ max (pkN (J 11 2) t (J 12) (J 1 4) n) 1 := l1 t r4 hok.1
    have hv : J 11 5 ≤ r := by have := hok.2; omega
    refine ⟨fun _ => ?_, fun q => by omega⟩
    obtain ⟨t', q1, q2, q3⟩ := ach (by omega)
    by_cases e : J 11 5 = r
    · exact e
    · have := r6 (J 11 5) q3 (by omega) t' q1
      omega
  · refine ⟨fun q => ?_, fun _ => r1⟩
    obtain ⟨t', q1, q2, q3⟩ := ach q
    have := r2 (J 11 5) q3 (by omega) t' q1
    omega
/-- digits make the code -/
theorem code_uni {n : Nat} (hn : n ≤ 3) {c d : Int} (hc : 0 ≤ c ∧ c < 128 ^ n) (hd : 0 ≤ d ∧ d < 128 ^ n) (h : ∀ i, i < n → c / 128 ^ (n - 1 - i) % 128 = d / 128 ^ (n - 1 - i) % 128) : c = d := by
  rcases (show n = 0 ∨ n = 1 ∨ n = 2 ∨ n = 3 by omega) with rfl | rfl | rfl | rfl
  · have : (128 : Int) ^ 0 = 1 := rfl
    omega
  · have h0 := h 0 (by omega)
    have : (128 : Int) ^ 1 = 128 := rfl
    simp only [Nat.sub_self, Int.pow_zero, Int.ediv_one] at h0
    omega
  · have h0 := h 0 (by omega)
    have h1 := h 1 (by omega)
    have e2 : (128 : Int) ^ 2 = 16384 := rfl
    rw [show 2 - 1 - 0 = 1 by rfl, show (128 : Int) ^ 1 = 128 from rfl] at h0
    rw [show 2 - 1 - 1 = 0 by rfl, show (128 : Int) ^ 0 = 1 from rfl] at h1
    omega
  · have h0 := h 0 (by omega)
    have h1 := h 1 (by omega)
    have h2 := h 2 (by omega)
    have e3 : (128 : Int) ^ 3 = 2097152 := rfl
    rw [show 3 - 1 - 0 = 2 by rfl, show (128 : Int) ^ 2 = 16384 from rfl] at h0
    rw [show 3 - 1 - 1 = 1 by rfl, show (128 : Int) ^ 1 = 128 from rfl] at h1
    rw [show 3 - 1 - 2 = 0 by rfl, show (128 : Int) ^ 0 = 1 from rfl] at h2
    omega
theorem btA_in {J J1 : zJ} {g b k i : Nat} (h1 : SG J g J1 b) (c1 : J1 87 b = (k : Int) ∧ (k : Int) < J g 1) (hi : (i : Int) < J g 2) : btA J1 b i = J (g + 1) k / 128 ^ ((J g 2).toNat - 1 - i) % 128 := by
  unfold btA
  rw [if_pos (by rw [h1.2.2.1]; exact hi), c1.1, Int.toNat_natCast, ((h1.2.2.2.2 k c1.2).2 i hi).2]
theorem btA_out {J J1 : zJ} {g b i : Nat} (h1 : SG J g J1 b) (hi : ¬ (i : Int) < J g 2) : btA J1 b i = -1 := by
  unfold btA
  rw [if_neg (by rw [h1.2.2.1]; exact hi)]
theorem btA_uni {J J1 J2 : zJ} {g g' b k k' : Nat} (h1 : SG J g J1 b) (h2 : SG J g' J2 b) (c1 : J1 87 b = (k : Int) ∧ (k : Int) < J g 1) (c2 : J2 87 b = (k' : Int) ∧ (k' : Int) < J g' 1) (s1 : 0 ≤ J g 2 ∧ J g 2 ≤ 3) (s2 : 0 ≤ J g' 2 ∧ J g' 2 ≤ 3) : (∀ i, i < 3 → btA J1 b i = btA J2 b i) ↔ (J g 2 = J g' 2 ∧ J (g + 1) k = J (g' + 1) k') := by
  have d1 := (h1.2.2.2.2 k c1.2).1
  have d2 := (h2.2.2.2.2 k' c2.2).1
  constructor
  · intro h
    have e : J g 2 = J g' 2 := by
      rcases Int.lt_trichotomy (J g 2) (J g' 2) with q | q | q
      · have h9 := h (J g 2).toNat (by omega)
        rw [btA_out h1 (by omega), btA_in h2 c2 (by omega)] at h9
        have := dg_B (m := (J g' 2).toNat - 1 - (J g 2).toNat) d2.1
        omega
      · exact q
      · have h9 := h (J g' 2).toNat (by omega)
        rw [btA_out h2 (by omega), btA_in h1 c1 (by omega)] at h9
        have := dg_B (m := (J g 2).toNat - 1 - (J g' 2).toNat) d1.1
        omega
    refine ⟨e, code_uni (n := (J g 2).toNat) (by omega) d1 (by rw [e]; exact d2) (fun i hi => ?_)⟩
    have h9 := h i (by omega)
    rw [btA_in h1 c1 (by omega), btA_in h2 c2 (by omega), ← e] at h9
    exact h9
  · rintro ⟨e1, e2⟩ i hi
    by_cases q : (i : Int) < J g 2
    · rw [btA_in h1 c1 q, btA_in h2 c2 (by omega), e1, e2]
    · rw [btA_out h1 q, btA_out h2 (by omega)]
theorem dif_tie {J J1 J2 : zJ} {b : Nat} (h1 : SG J (14 + 15 + 2 * b) J1 b) (h2 : SG J (45 + 15 + 2 * b) J2 b) (c1 : J1 87 b = (hch J 14 b : Int) ∧ (hch J 14 b : Int) < J (14 + 15 + 2 * b) 1) (c2 : J2 87 b = (hch J 45 b : Int) ∧ (hch J 45 b : Int) < J (45 + 15 + 2 * b) 1) (s1 : 0 ≤ J (14 + 15 + 2 * b) 2 ∧ J (14 + 15 + 2 * b) 2 ≤ 3) (s2 : 0 ≤ J (45 + 15 + 2 * b) 2 ∧ J (45 + 15 + 2 * b) 2 ≤ 3) : difZ J b = dfB (btA J1) (btA J2) b := by
  have hu := btA_uni h1 h2 c1 c2 s1 s2
  rw [← lkB_iff] at hu
  unfold difZ dfB
  by_cases q : lkB (btA J1 b) (btA J2 b) 3 = 0
  · rw [if_pos q, bz_0.mpr (fun h => hu.mpr h q)]; rfl
  · rw [if_neg q, bz_1.mpr (hu.mp q)]; rfl
