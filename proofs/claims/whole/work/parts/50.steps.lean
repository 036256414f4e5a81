
theorem Cinv.keep {J J' : zJ} {n : Nat} (h : Cinv J n) (e : ∀ x, x ≤ 75 → J' x = J x) : Cinv J' n := by
  have h8 := h.1.2.2.2.2.2.1.2.1
  have ef : ∀ x k, x ≤ 75 → J' x k = J x k := fun x k hx => by rw [e x hx]
  refine ⟨h.1.keep (fun x k q1 q2 => ef x k (by omega)), ⟨?_, h.2.1.2.1.keep (fun x k q => ef x k (by omega)) h8, ?_⟩, ?_⟩
  · rw [e 1 (by omega), e 2 (by omega), e 3 (by omega)]
    exact h.2.1.1.keep (fun x k q => ef x k (by omega)) h8
  · have hb := h.2.1.2.2
    have eu : ∀ b, b < n → useZ J' 14 b = useZ J 14 b := fun b hb => by
      unfold useZ
      rw [e 4 (by omega), e 1 (by omega), hnt_congr (J := J) (fun k => ef _ _ (by omega)) (ef _ _ (by omega)) (fun k => ef _ _ (by omega)) (fun k => ef _ _ (by omega))]
    unfold BelOK BelN at hb ⊢
    rw [e 11 (by omega), e 12 (by omega), e 13 (by omega), e 1 (by omega), e 5 (by omega)]
    exact ⟨hb.1, fun b q => by rw [eu b q]; exact hb.2.1 b q, hb.2.2⟩
  · rcases h.2.2 with q | ⟨q1, m, q2⟩
    · exact Or.inl (by rw [e 0 (by omega)]; exact q)
    · exact Or.inr ⟨by rw [e 0 (by omega)]; exact q1, m, q2.keep (fun x k a b => ef x k (by omega))⟩
def DEq (J : zJ) (d : Nat) (f g : Nat → Int) : Prop := (∀ k, k < 6 → J d k = f k) ∧ ∀ b, b < 8 → J (d + 1) b = g (4 * b) ∧ J (d + 2) b = g (4 * b + 1) ∧ J (d + 3) b = g (4 * b + 2) ∧ J (d + 4) b = g (4 * b + 3)
abbrev M90 (J : zJ) : Prop := J 90 0 = 3 ∧ J 90 1 = 0 ∧ J 90 2 = 1 ∧ J 90 3 = 1000
/-- what holds between two calls of the law -/
def LInv (J : zJ) (n : Nat) : Prop := Cinv J n ∧ DEq J 1 (J 77) (J 78) ∧ M90 J ∧ J 0 2 = J 76 2 ∧ (J 0 2 = 1 → DEq J 6 (J 79) (fun k => J 79 (6 + k)))
theorem LInv.vm {J : zJ} {n : Nat} (h : LInv J n) : VM J n := by
  obtain ⟨hC, ⟨d1, d2⟩, hz, _⟩ := h
  obtain ⟨v1, v2, v3, v4, v5, ⟨v6, v7, v8⟩, v9⟩ := hC.1
  refine ⟨?_, ?_, ?_, ?_, ?_, ⟨?_, v7⟩, fun b hb => ?_, hz⟩
  · rw [← d1 0 (by omega)]; exact v1
  · rw [← d1 1 (by omega)]; exact v2
  · rw [← d1 2 (by omega)]; exact v3
  · rw [← d1 3 (by omega)]; exact v4
  · rw [← d1 4 (by omega), ← d1 3 (by omega)]; exact v5
  · rw [← d1 5 (by omega)]; exact v6
  · obtain ⟨q1, q2, q3, q4⟩ := d2 b (by omega)
    rw [← q1, ← q2, ← q3, ← q4]
    exact ⟨(v8 b hb).1, (v8 b hb).2, (v9 b hb).1, (v9 b hb).2⟩
theorem LInv.keepR {J J' : zJ} {n : Nat} (h : LInv J n) (e : RFr J J') : LInv J' n := by
  have ef : ∀ x, x ≤ 75 → J' x = J x := fun x hx => funext fun k => e x k (by omega) (by omega)
  have e7 : J' 77 = J 77 := funext fun k => e _ _ (by omega) (by omega)
  have e8 : J' 78 = J 78 := funext fun k => e _ _ (by omega) (by omega)
  have e9 : J' 79 = J 79 := funext fun k => e _ _ (by omega) (by omega)
  have e90 : J' 90 = J 90 := funext fun k => e _ _ (by omega) (by omega)
  obtain ⟨hC, hD, hz, hk, hK⟩ := h
  refine ⟨hC.keep ef, ?_, ?_, ?_, ?_⟩
  · unfold DEq
    simp only [show 1 + 1 = 2 from rfl, show 1 + 2 = 3 from rfl, show 1 + 3 = 4 from rfl, show 1 + 4 = 5 from rfl]
    rw [ef 1 (by omega), ef 2 (by omega), ef 3 (by omega), ef 4 (by omega), ef 5 (by omega), e7, e8]
    exact hD
  · unfold M90; rw [e90]; exact hz
  · rw [ef 0 (by omega), e 76 2 (by omega) (by omega)]; exact hk
  · rw [ef 0 (by omega)]
    intro q
    have hD2 := hK q
    unfold DEq
    simp only [show 6 + 1 = 7 from rfl, show 6 + 2 = 8 from rfl, show 6 + 3 = 9 from rfl, show 6 + 4 = 10 from rfl]
    rw [ef 6 (by omega), ef 7 (by omega), ef 8 (by omega), ef 9 (by omega), ef 10 (by omega), e9]
    exact hD2
/-- from the class's new state and the reference's -/
theorem LInv.mk' {J1 J2 : zJ} {n : Nat} (hC : Cinv J1 n) (ef : ∀ x k, x ≤ 75 → J2 x k = J1 x k) (hD : DEq J2 1 (J2 77) (J2 78)) (hz : M90 J2) (hk : J2 0 2 = J2 76 2) (hK : J2 0 2 = 1 → DEq J2 6 (J2 79) (fun k => J2 79 (6 + k))) : LInv J2 n := ⟨hC.keep (fun x hx => funext fun k => ef x k hx), hD, hz, hk, hK⟩
theorem DEq.keep {J J' : zJ} {d : Nat} {f g f' g' : Nat → Int} (h : DEq J d f g) (e : ∀ x k, d ≤ x → x ≤ d + 4 → J' x k = J x k) (ef : ∀ k, f' k = f k) (eg : ∀ k, g' k = g k) : DEq J' d f' g' := by
  refine ⟨fun k hk => by rw [e _ _ (by omega) (by omega), ef]; exact h.1 k hk, fun b hb => ?_⟩
  rw [e _ _ (by omega) (by omega), e _ _ (by omega) (by omega), e _ _ (by omega) (by omega), e _ _ (by omega) (by omega), eg, eg, eg, eg]
  exact h.2 b hb
theorem zup_if (J : zJ) (a k : Nat) (v : Int) (x i : Nat) : zup J a k v x i = if x = a ∧ i = k then v else J x i := rfl
theorem LInv.sg {J J' : zJ} {n b : Nat} (h : LInv J n) (hb : b < n) (hM : MGood J J' b) : SG J (14 + 15 + 2 * b) J' b := by
  have hm := h.vm
  obtain ⟨hC, ⟨d1, d2⟩, _⟩ := h
  have h8 := hC.1.2.2.2.2.2.1.2.1
  have hg := hC.2.1.1.2 b hb
  have hlo := (hC.1.2.2.2.2.2.1.2.2 b hb).2
  unfold MGood at hM
  obtain ⟨q1, q2, _⟩ := d2 b (by omega)
  rw [← d1 0 (by omega), ← d1 1 (by omega), ← q1, ← q2] at hM
  exact sg_of hg hM hC.1.1.1 hC.1.1.2 hlo.2
theorem LInv.pre {J : zJ} {n : Nat} (h : LInv J n) : HPre J 14 n := h.1.2.1.1.pre h.1.1.2.2.2.2.2.1.2.1
theorem LInv.hand {J J' : zJ} {n : Nat} (h : LInv J n) (hF : HFound J J' n) : (∀ b, b < n → J 19 b = J' 87 b) ∧ J 14 3 = J' 76 13 := hand_tie (a := 14) (fun b hb => h.sg hb (hF.1 b hb).1) h.pre h.1.2.1.2.1 hF
theorem LInv.snds {J J' : zJ} {n b : Nat} (h : LInv J n) (hF : HFound J J' n) (hR : RFr J J') (hb : b < n) : hnt J 14 b = mnt J' b := by
  have hC := h.1
  have h8 := hC.1.2.2.2.2.2.1.2.1
  refine sound_tie hC.2.1.1 hC.2.1.2.1 h8 hb hC.1.1.1 hC.1.1.2 (hC.1.2.2.2.2.2.1.2.2 b hb).2.2 (h.sg hb (hF.1 b hb).1) ((h.hand hF).1 b hb) ?_
  rw [hR _ _ (by omega) (by omega)]
  exact (h.2.1.1 0 (by omega)).symm
theorem LInv.uses {J J' : zJ} {n b : Nat} (h : LInv J n) (hU : UFound J J' n) (hR : RFr J J') (hb : b < n) : J 12 b = J' 89 b := by
  have hC := h.1
  have h8 := hC.1.2.2.2.2.2.1.2.1
  rw [hU.2 b hb, (hC.2.1.2.2.2.1 b hb).1]
  unfold useZ uzM
  rw [h.snds hU.1 hR hb, (h.2.1.2 b (by omega)).2.2.1, h.2.1.1 2 (by omega)]
theorem LInv.marks {J J' : zJ} {n b : Nat} (h : LInv J n) (hR : RFr J J') (hb : b < n) : J 13 b = mkM J' b ∧ 0 ≤ J 13 b ∧ J 13 b ≤ 3 := by
  have hC := h.1
  have h8 := hC.1.2.2.2.2.2.1.2.1
  have hv := (hC.1.2.2.2.2.2.2 b hb).2
  have e := (hC.2.1.2.2.2.1 b hb).2
  rw [e]
  refine ⟨?_, hv⟩
  unfold mkM
  rw [hR _ _ (by omega) (by omega)]
  exact (h.2.1.2 b (by omega)).2.2.2
theorem LInv.m90 {J J' : zJ} {n : Nat} (h : LInv J n) (hR : RFr J J') : M90 J' := (h.keepR hR).2.2.1
theorem LInv.wy {J J' : zJ} {n : Nat} {way : Int} (h : LInv J n) (hR : RFr J J') (hW : WFound J J' n way) : J 11 3 = way ∧ (¬ J 11 3 = -1 → J 11 4 = J' 76 17) := by
  have hC := h.1
  have h8 := hC.1.2.2.2.2.2.1.2.1
  refine way_tie h8 hC.2.1.2.2 (fun b hb => h.uses hW.1 hR hb) (fun b hb => h.marks hR hb) (h.m90 hR) ?_ hC.1.2.2.2.2.1.2 ?_
  · rw [hR _ _ (by omega) (by omega)]; exact h.2.1.1 4 (by omega)
  · rw [h.2.1.1 3 (by omega)]; exact hW.2

theorem st_sound {J : zJ} {n : Nat} (h : LInv J n) {b : Int} {r1 r2 : Int} {J1 J2 : zJ} (h1 : (fun r J' => ((0 ≤ b ∧ b < 72 → r = if J 16 b.toNat = 0 then -3 else J 16 b.toNat) ∧ (¬ (0 ≤ b ∧ b < 72) → r = -1)) ∧ J' = J) r1 J1) (h2 : (fun (J : zJ) => (fun r J' => ((0 ≤ b ∧ b < 72 → r = if thr (J 77 1) b then snd (J 77 0) b else -3) ∧ (¬ (0 ≤ b ∧ b < 72) → r = -1)) ∧ J' = J)) J1 r2 J2) : r1 = r2 ∧ ∃ m, LInv J2 m := by
  obtain ⟨⟨a1, a2⟩, rfl⟩ := h1
  obtain ⟨⟨b1, b2⟩, rfl⟩ := h2
  refine ⟨?_, n, h⟩
  have hC := h.1
  by_cases q : 0 ≤ b ∧ b < 72
  · rw [a1 q, b1 q]
    obtain ⟨x, rfl⟩ := Int.eq_ofNat_of_zero_le q.1
    have ht := hC.2.1.1.1.1 x (by omega)
    have hs := snd_eq hC.1.1.1 hC.1.1.2 (show x < 72 by omega)
    rw [Int.toNat_natCast, ← h.2.1.1 0 (by omega), ← h.2.1.1 1 (by omega)]
    have ht : J2 16 x = ntc (J2 1 0) (J2 1 1) x := ht
    rw [ht]
    unfold ntc
    by_cases e : thr (J2 1 1) (x : Int)
    · rw [if_pos e, if_pos e, if_neg (by omega)]
    · rw [if_neg e, if_neg e, if_pos rfl]
  · rw [a2 q, b2 q]

theorem st_root {J : zJ} {n : Nat} (h : LInv J n) {b : Int} {r1 r2 : Int} {J1 J2 : zJ} (h1 : (fun r J' => ((0 ≤ b ∧ b < 12 → r = zrem (J 1 0 + 7 * b) 12) ∧ (¬ (0 ≤ b ∧ b < 12) → r = -1)) ∧ J' = J) r1 J1) (h2 : (fun (J : zJ) => (fun r J' => ((0 ≤ b ∧ b < 12 → r = zrem (J 77 0 + 7 * b) 12) ∧ (¬ (0 ≤ b ∧ b < 12) → r = -1)) ∧ J' = J)) J1 r2 J2) : r1 = r2 ∧ ∃ m, LInv J2 m := by
  obtain ⟨⟨a1, a2⟩, rfl⟩ := h1
  obtain ⟨⟨b1, b2⟩, rfl⟩ := h2
  refine ⟨?_, n, h⟩
  by_cases q : 0 ≤ b ∧ b < 12
  · rw [a1 q, b1 q, h.2.1.1 0 (by omega)]
  · rw [a2 q, b2 q]

theorem st_of {J : zJ} {n : Nat} (h : LInv J n) {b w : Int} {r1 r2 : Int} {J1 J2 : zJ} (h1 : (fun r J' => (((0 ≤ b ∧ b < n) → (w = 0 → r = J 2 b.toNat) ∧ (w = 1 → r = J 3 b.toNat) ∧ (w = 2 → r = J 4 b.toNat) ∧ (w = 3 → r = J 5 b.toNat) ∧ (¬ (0 ≤ w ∧ w ≤ 3) → r = -9)) ∧ (¬ (0 ≤ b ∧ b < n) → r = -9)) ∧ J' = J) r1 J1) (h2 : (fun (J : zJ) => (fun r J' => (((0 ≤ b ∧ b < n) → (0 ≤ w ∧ w ≤ 3 → r = J 78 (4 * b.toNat + w.toNat)) ∧ (¬ (0 ≤ w ∧ w ≤ 3) → r = -9)) ∧ (¬ (0 ≤ b ∧ b < n) → r = -9)) ∧ J' = J)) J1 r2 J2) : r1 = r2 ∧ ∃ m, LInv J2 m := by
  obtain ⟨⟨a1, a2⟩, rfl⟩ := h1
  obtain ⟨⟨b1, b2⟩, rfl⟩ := h2
  refine ⟨?_, n, h⟩
  have h8 := h.1.1.2.2.2.2.2.1.2.1
  by_cases q : 0 ≤ b ∧ b < n
  · obtain ⟨c0, c1, c2, c3, c4⟩ := a1 q
    obtain ⟨d0, d1⟩ := b1 q
    obtain ⟨e0, e1, e2, e3⟩ := h.2.1.2 b.toNat (by omega)
    by_cases p : 0 ≤ w ∧ w ≤ 3
    · rw [d0 p]
      rcases (show w = 0 ∨ w = 1 ∨ w = 2 ∨ w = 3 by omega) with rfl | rfl | rfl | rfl
      · rw [c0 rfl]; exact e0
      · rw [c1 rfl]; exact e1
      · rw [c2 rfl]; exact e2
      · rw [c3 rfl]; exact e3
    · rw [c4 p, d1 p]
  · rw [a2 q, b2 q]

theorem st_good {J : zJ} {n : Nat} (h : LInv J n) {b w : Int} {r1 r2 : Int} {J1 J2 : zJ} (h1 : (fun r J' => (((0 ≤ b ∧ b < n) → (w = 0 → r = J (14 + 15 + 2 * b.toNat) 3) ∧ (w = 1 → r = J (14 + 15 + 2 * b.toNat) 4) ∧ (w = 2 → r = J (14 + 15 + 2 * b.toNat) 2) ∧ (w = 3 → r = J (14 + 15 + 2 * b.toNat) 1) ∧ (¬ (0 ≤ w ∧ w ≤ 3) → r = -1)) ∧ (¬ (0 ≤ b ∧ b < n) → r = -1)) ∧ J' = J) r1 J1) (h2 : (fun (J : zJ) => (fun r J' => (((0 ≤ b ∧ b < n) ∧ (0 ≤ w ∧ w ≤ 3)) ∧ MGood J J' b.toNat ∧ QFr J J' b.toNat ∧ (w = 0 → r = J' 80 b.toNat) ∧ (w = 1 → r = J' 81 b.toNat) ∧ (w = 2 → r = J' 82 b.toNat) ∧ (w = 3 → r = J' 83 b.toNat)) ∨ (¬ ((0 ≤ b ∧ b < n) ∧ (0 ≤ w ∧ w ≤ 3)) ∧ r = -1 ∧ J' = J))) J1 r2 J2) : r1 = r2 ∧ ∃ m, LInv J2 m := by
  obtain ⟨⟨a1, a2⟩, rfl⟩ := h1
  rcases h2 with ⟨⟨q1, q2⟩, hM, hQ, w0, w1, w2, w3⟩ | ⟨q, b1, rfl⟩
  · obtain ⟨x, rfl⟩ := Int.eq_ofNat_of_zero_le q1.1
    rw [Int.toNat_natCast] at *
    refine ⟨?_, n, h.keepR (QFr.rr (fun _ _ _ _ => rfl) hQ)⟩
    obtain ⟨s0, s1, s2, s3, _⟩ := h.sg (show x < n by omega) hM
    obtain ⟨c0, c1, c2, c3, c4⟩ := a1 q1
    rcases (show w = 0 ∨ w = 1 ∨ w = 2 ∨ w = 3 by omega) with rfl | rfl | rfl | rfl
    · rw [c0 rfl, w0 rfl, s0]
    · rw [c1 rfl, w1 rfl, s1]
    · rw [c2 rfl, w2 rfl, s2]
    · rw [c3 rfl, w3 rfl, s3]
  · refine ⟨?_, n, h⟩
    rw [b1]
    by_cases p : 0 ≤ b ∧ b < n
    · exact (a1 p).2.2.2.2 (fun p2 => q ⟨p, p2⟩)
    · exact a2 p

theorem st_button {J : zJ} {n : Nat} (h : LInv J n) {b k i : Int} {r1 r2 : Int} {J1 J2 : zJ} (h1 : (fun r J' => (((0 ≤ b ∧ b < n) → ((0 ≤ k ∧ k < J (14 + 15 + 2 * b.toNat) 1 ∧ 0 ≤ i ∧ i < J (14 + 15 + 2 * b.toNat) 2) → r = digZ (J (14 + 15 + 2 * b.toNat) 2) (J ((14 + 15 + 2 * b.toNat) + 1) k.toNat) i) ∧ (¬ (0 ≤ k ∧ k < J (14 + 15 + 2 * b.toNat) 1 ∧ 0 ≤ i ∧ i < J (14 + 15 + 2 * b.toNat) 2) → r = -3)) ∧ (¬ (0 ≤ b ∧ b < n) → r = -1)) ∧ J' = J) r1 J1) (h2 : (fun (J : zJ) => (fun r J' => ((0 ≤ b ∧ b < n) ∧ MGood J J' b.toNat ∧ QFr J J' b.toNat ∧ ((0 ≤ k ∧ k < J' 83 b.toNat ∧ 0 ≤ i ∧ i < J' 82 b.toNat) → r = J' 84 (60 * b.toNat + 3 * k.toNat + i.toNat)) ∧ (¬ (0 ≤ k ∧ k < J' 83 b.toNat ∧ 0 ≤ i ∧ i < J' 82 b.toNat) → r = -3)) ∨ (¬ (0 ≤ b ∧ b < n) ∧ r = -1 ∧ J' = J))) J1 r2 J2) : r1 = r2 ∧ ∃ m, LInv J2 m := by
  obtain ⟨⟨a1, a2⟩, rfl⟩ := h1
  rcases h2 with ⟨q1, hM, hQ, w0, w1⟩ | ⟨q, b1, rfl⟩
  · obtain ⟨x, rfl⟩ := Int.eq_ofNat_of_zero_le q1.1
    rw [Int.toNat_natCast] at *
    refine ⟨?_, n, h.keepR (QFr.rr (fun _ _ _ _ => rfl) hQ)⟩
    obtain ⟨s0, s1, s2, s3, s4⟩ := h.sg (show x < n by omega) hM
    obtain ⟨c0, c1⟩ := a1 q1
    rw [s2, s3] at w0 w1
    by_cases p : 0 ≤ k ∧ k < J1 (14 + 15 + 2 * x) 1 ∧ 0 ≤ i ∧ i < J1 (14 + 15 + 2 * x) 2
    · rw [c0 p, w0 p]
      obtain ⟨ki, rfl⟩ := Int.eq_ofNat_of_zero_le p.1
      obtain ⟨ii, rfl⟩ := Int.eq_ofNat_of_zero_le p.2.2.1
      exact ((s4 ki p.2.1).2 ii p.2.2.2).1
    · rw [c1 p, w1 p]
  · exact ⟨by rw [b1, a2 q], n, h⟩

theorem st_hand {J : zJ} {n : Nat} (h : LInv J n) {b : Int} {r1 r2 : Int} {J1 J2 : zJ} (h1 : (fun r J' => (((0 ≤ b ∧ b < n) → r = J 19 b.toNat) ∧ (¬ (0 ≤ b ∧ b < n) → r = -1)) ∧ J' = J) r1 J1) (h2 : (fun (J : zJ) => (fun r J' => ((0 ≤ b ∧ b < n) ∧ HFound J J' n ∧ RFr J J' ∧ r = J' 87 b.toNat) ∨ (¬ (0 ≤ b ∧ b < n) ∧ r = -1 ∧ J' = J))) J1 r2 J2) : r1 = r2 ∧ ∃ m, LInv J2 m := by
  obtain ⟨⟨a1, a2⟩, rfl⟩ := h1
  rcases h2 with ⟨q1, hF, hR, e⟩ | ⟨q, b1, rfl⟩
  · refine ⟨?_, n, h.keepR hR⟩
    obtain ⟨x, rfl⟩ := Int.eq_ofNat_of_zero_le q1.1
    rw [Int.toNat_natCast] at *
    rw [a1 q1, e]
    exact (h.hand hF).1 x (by omega)
  · exact ⟨by rw [b1, a2 q], n, h⟩

theorem st_jumps {J : zJ} {n : Nat} (h : LInv J n) {r1 r2 : Int} {J1 J2 : zJ} (h1 : (fun r J' => r = J 14 3 ∧ J' = J) r1 J1) (h2 : (fun (J : zJ) => (fun r J' => HFound J J' n ∧ RFr J J' ∧ r = J' 76 13)) J1 r2 J2) : r1 = r2 ∧ ∃ m, LInv J2 m := by
  obtain ⟨a1, rfl⟩ := h1
  obtain ⟨hF, hR, e⟩ := h2
  exact ⟨by rw [a1, e]; exact (h.hand hF).2, n, h.keepR hR⟩

theorem st_sounds {J : zJ} {n : Nat} (h : LInv J n) {b : Int} {r1 r2 : Int} {J1 J2 : zJ} (h1 : (fun r J' => (((0 ≤ b ∧ b < n) → r = hnt J 14 b.toNat) ∧ (¬ (0 ≤ b ∧ b < n) → r = -1)) ∧ J' = J) r1 J1) (h2 : (fun (J : zJ) => (fun r J' => ((0 ≤ b ∧ b < n) ∧ HFound J J' n ∧ RFr J J' ∧ r = mnt J' b.toNat) ∨ (¬ (0 ≤ b ∧ b < n) ∧ r = -1 ∧ J' = J))) J1 r2 J2) : r1 = r2 ∧ ∃ m, LInv J2 m := by
  obtain ⟨⟨a1, a2⟩, rfl⟩ := h1
  rcases h2 with ⟨q1, hF, hR, e⟩ | ⟨q, b1, rfl⟩
  · refine ⟨?_, n, h.keepR hR⟩
    obtain ⟨x, rfl⟩ := Int.eq_ofNat_of_zero_le q1.1
    rw [Int.toNat_natCast] at *
    rw [a1 q1, e]
    exact h.snds hF hR (by omega)
  · exact ⟨by rw [b1, a2 q], n, h⟩

theorem st_use {J : zJ} {n : Nat} (h : LInv J n) {b : Int} {r1 r2 : Int} {J1 J2 : zJ} (h1 : (fun r J' => (((0 ≤ b ∧ b < n) → r = J 12 b.toNat) ∧ (¬ (0 ≤ b ∧ b < n) → r = -1)) ∧ J' = J) r1 J1) (h2 : (fun (J : zJ) => (fun r J' => ((0 ≤ b ∧ b < n) ∧ UFound J J' n ∧ RFr J J' ∧ r = J' 89 b.toNat) ∨ (¬ (0 ≤ b ∧ b < n) ∧ r = -1 ∧ J' = J))) J1 r2 J2) : r1 = r2 ∧ ∃ m, LInv J2 m := by
  obtain ⟨⟨a1, a2⟩, rfl⟩ := h1
  rcases h2 with ⟨q1, hU, hR, e⟩ | ⟨q, b1, rfl⟩
  · refine ⟨?_, n, h.keepR hR⟩
    obtain ⟨x, rfl⟩ := Int.eq_ofNat_of_zero_le q1.1
    rw [Int.toNat_natCast] at *
    rw [a1 q1, e]
    exact h.uses hU hR (by omega)
  · exact ⟨by rw [b1, a2 q], n, h⟩

theorem st_bellows {J : zJ} {n : Nat} (h : LInv J n) {b : Int} {r1 r2 : Int} {J1 J2 : zJ} (h1 : (fun r J' => (((0 ≤ b ∧ b < n) → (J 11 3 = -1 → r = -3) ∧ (¬ J 11 3 = -1 → r = bz (gz (J 11 2) (J 11 3) b = 0))) ∧ (¬ (0 ≤ b ∧ b < n) → r = -1)) ∧ J' = J) r1 J1) (h2 : (fun (J : zJ) => (fun r J' => ((0 ≤ b ∧ b < n) ∧ RFr J J' ∧ ∃ way, WFound J J' n way ∧ (way = -1 → r = -3) ∧ (¬ way = -1 → r = bz (gz (n : Int) way b = 0))) ∨ (¬ (0 ≤ b ∧ b < n) ∧ r = -1 ∧ J' = J))) J1 r2 J2) : r1 = r2 ∧ ∃ m, LInv J2 m := by
  obtain ⟨⟨a1, a2⟩, rfl⟩ := h1
  rcases h2 with ⟨q1, hR, way, hW, e1, e2⟩ | ⟨q, b1, rfl⟩
  · refine ⟨?_, n, h.keepR hR⟩
    obtain ⟨w1, w2⟩ := h.wy hR hW
    obtain ⟨c1, c2⟩ := a1 q1
    rw [w1] at c1 c2
    rw [h.1.2.1.2.2.1] at c2
    by_cases p : way = -1
    · rw [c1 p, e1 p]
    · rw [c2 p, e2 p]
  · exact ⟨by rw [b1, a2 q], n, h⟩

theorem st_air {J : zJ} {n : Nat} (h : LInv J n) {b : Int} {r1 r2 : Int} {J1 J2 : zJ} (h1 : (fun r J' => (((0 ≤ b ∧ b < n) → (J 11 3 = -1 → r = -3) ∧ (¬ J 11 3 = -1 → r = airN (J 11 2) (J 11 3) (J 12) (J 1 4) (b.toNat + 1))) ∧ (¬ (0 ≤ b ∧ b < n) → r = -1)) ∧ J' = J) r1 J1) (h2 : (fun (J : zJ) => (fun r J' => ((0 ≤ b ∧ b < n) ∧ RFr J J' ∧ ∃ way, WFound J J' n way ∧ (way = -1 → r = -3) ∧ (¬ way = -1 → r = airN (n : Int) way (J' 89) (J 77 4) (b.toNat + 1))) ∨ (¬ (0 ≤ b ∧ b < n) ∧ r = -1 ∧ J' = J))) J1 r2 J2) : r1 = r2 ∧ ∃ m, LInv J2 m := by
  obtain ⟨⟨a1, a2⟩, rfl⟩ := h1
  rcases h2 with ⟨q1, hR, way, hW, e1, e2⟩ | ⟨q, b1, rfl⟩
  · refine ⟨?_, n, h.keepR hR⟩
    obtain ⟨w1, w2⟩ := h.wy hR hW
    obtain ⟨c1, c2⟩ := a1 q1
    rw [w1] at c1 c2
    rw [h.1.2.1.2.2.1] at c2
    by_cases p : way = -1
    · rw [c1 p, e1 p]
    · rw [c2 p, e2 p, h.2.1.1 4 (by omega)]
      exact air_congr (fun x hx => h.uses hW.1 hR (by omega))
  · exact ⟨by rw [b1, a2 q], n, h⟩

theorem st_cost {J : zJ} {n : Nat} (h : LInv J n) {r1 r2 : Int} {J1 J2 : zJ} (h1 : (fun r J' => ((J 11 3 = -1 → r = -3) ∧ (¬ J 11 3 = -1 → r = J 11 4)) ∧ J' = J) r1 J1) (h2 : (fun (J : zJ) => (fun r J' => RFr J J' ∧ ∃ way, WFound J J' n way ∧ (way = -1 → r = -3) ∧ (¬ way = -1 → r = J' 76 17))) J1 r2 J2) : r1 = r2 ∧ ∃ m, LInv J2 m := by
  obtain ⟨⟨c1, c2⟩, rfl⟩ := h1
  obtain ⟨hR, way, hW, e1, e2⟩ := h2
  refine ⟨?_, n, h.keepR hR⟩
  obtain ⟨w1, w2⟩ := h.wy hR hW
  by_cases p : way = -1
  · rw [c1 (by rw [w1]; exact p), e1 p]
  · rw [c2 (by rw [w1]; exact p), e2 p, w2 (by rw [w1]; exact p)]

theorem st_wants {J : zJ} {n : Nat} (h : LInv J n) {r1 r2 : Int} {J1 J2 : zJ} (h1 : (fun r J' => ((J 11 5 ≤ 400 → r = J 11 5) ∧ (¬ J 11 5 ≤ 400 → r = -3)) ∧ J' = J) r1 J1) (h2 : (fun (J : zJ) => (fun r J' => RFr J J' ∧ UFound J J' n ∧ ((1 ≤ r ∧ r ≤ 400 ∧ max (J 77 4) 1 ≤ r ∧ (∃ t, t < 2 ^ n ∧ csM J' n r t < 1000) ∧ ∀ m : Int, max (J 77 4) 1 ≤ m → m < r → ∀ t, t < 2 ^ n → 1000 ≤ csM J' n m t) ∨ (r = -3 ∧ ∀ m : Int, max (J 77 4) 1 ≤ m → m < 401 → ∀ t, t < 2 ^ n → 1000 ≤ csM J' n m t)))) J1 r2 J2) : r1 = r2 ∧ ∃ m, LInv J2 m := by
  obtain ⟨⟨c1, c2⟩, rfl⟩ := h1
  obtain ⟨hR, hU, hw⟩ := h2
  refine ⟨?_, n, h.keepR hR⟩
  have hC := h.1
  have h8 := hC.1.2.2.2.2.2.1.2.1
  rw [← h.2.1.1 4 (by omega)] at hw
  have ht := want_tie h8 hC.2.1.2.2 (fun b hb => h.uses hU hR hb) (fun b hb => h.marks hR hb) (h.m90 hR) (by rw [hR _ _ (by omega) (by omega)]; exact h.2.1.1 4 (by omega)) hw
  by_cases p : J1 11 5 ≤ 400
  · rw [c1 p]; exact ht.1 p
  · rw [c2 p]; exact (ht.2 p).symm

theorem st_many {J : zJ} {n : Nat} (h : LInv J n) {w : Int} {r1 r2 : Int} {J1 J2 : zJ} (h1 : (fun r J' => ((w = 0 → r = (n : Int)) ∧ (w = 1 → r = 12 * bcZ (J 1 1)) ∧ (w = 2 → r = sumN (fun b => J (14 + 15 + 2 * b) 3) n) ∧ (w = 3 → r = sumN (fun b => J (14 + 15 + 2 * b) 4) n) ∧ (w = 4 → r = sumN (fun b => J (14 + 15 + 2 * b) 2) n) ∧ (w = 5 → r = if J 11 3 = -1 then 0 else sumN (tct (J 11 2) (J 11 3)) n) ∧ (w = 6 → r = J 1 0) ∧ (w = 7 → r = J 1 1) ∧ (¬ (0 ≤ w ∧ w ≤ 7) → r = -1)) ∧ J' = J) r1 J1) (h2 : (fun (J : zJ) => (fun r J' => RFr J J' ∧ (w = 0 → r = (n : Int)) ∧ (w = 1 → r = 12 * ones (J 77 1)) ∧ (2 ≤ w ∧ w ≤ 4 → ∃ g : Nat → Int, (∀ b, b < n → GVal J (w - 2) b (g b)) ∧ r = sumN g n) ∧ (w = 5 → ∃ way, WFound J J' n way ∧ (way = -1 → r = 0) ∧ (¬ way = -1 → r = sumN (tct (n : Int) way) n)) ∧ (w = 6 → r = J 77 0) ∧ (w = 7 → r = J 77 1) ∧ (¬ (0 ≤ w ∧ w ≤ 7) → r = -1))) J1 r2 J2) : r1 = r2 ∧ ∃ m, LInv J2 m := by
  obtain ⟨⟨a0, a1, a2, a3, a4, a5, a6, a7, a8⟩, rfl⟩ := h1
  obtain ⟨hR, b0, b1, b2, b3, b4, b5, b6⟩ := h2
  refine ⟨?_, n, h.keepR hR⟩
  have hC := h.1
  by_cases p : 0 ≤ w ∧ w ≤ 7
  · rcases (show w = 0 ∨ w = 1 ∨ w = 2 ∨ w = 3 ∨ w = 4 ∨ w = 5 ∨ w = 6 ∨ w = 7 by omega) with rfl | rfl | rfl | rfl | rfl | rfl | rfl | rfl
    · rw [a0 rfl, b0 rfl]
    · rw [a1 rfl, b1 rfl, ← h.2.1.1 1 (by omega), bc_eq hC.1.2.1.1 (by have := hC.1.2.1.2; omega)]
    · rw [a2 rfl]
      obtain ⟨g, g1, g2⟩ := b2 (by omega)
      rw [g2]
      refine sumN_congr (fun x hx => ?_)
      obtain ⟨Jx, m1, m2, m3, m4⟩ := g1 x hx
      rw [m2 rfl, (h.sg hx m1).1]
    · rw [a3 rfl]
      obtain ⟨g, g1, g2⟩ := b2 (by omega)
      rw [g2]
      refine sumN_congr (fun x hx => ?_)
      obtain ⟨Jx, m1, m2, m3, m4⟩ := g1 x hx
      rw [m3 rfl, (h.sg hx m1).2.1]
    · rw [a4 rfl]
      obtain ⟨g, g1, g2⟩ := b2 (by omega)
      rw [g2]
      refine sumN_congr (fun x hx => ?_)
      obtain ⟨Jx, m1, m2, m3, m4⟩ := g1 x hx
      rw [m4 rfl, (h.sg hx m1).2.2.1]
    · rw [a5 rfl]
      obtain ⟨way, hW, e1, e2⟩ := b3 rfl
      obtain ⟨w1, w2⟩ := h.wy hR hW
      rw [w1, hC.2.1.2.2.1]
      by_cases p : way = -1
      · rw [if_pos p, e1 p]
      · rw [if_neg p, e2 p]
    · rw [a6 rfl, b4 rfl, h.2.1.1 0 (by omega)]
    · rw [a7 rfl, b5 rfl, h.2.1.1 1 (by omega)]
  · rw [a8 p, b6 p]

theorem st_changed {J : zJ} {n : Nat} (h : LInv J n) {a b : Int} {r1 r2 : Int} {J1 J2 : zJ} (h1 : (fun r J' => ((0 ≤ a ∧ a < 12 ∧ 0 ≤ b ∧ b ≤ 63) ∧ r = sumN (difZ J') n ∧ Cinv J' n ∧ Core J J' ∧ Lrn J' 45 a b n (J 2) (J 3) ∧ HandOK J' 45 n) ∨ (¬ (0 ≤ a ∧ a < 12 ∧ 0 ≤ b ∧ b ≤ 63) ∧ r = -1 ∧ J' = J)) r1 J1) (h2 : (fun (J : zJ) => (fun r J' => ((0 ≤ a ∧ a < 12 ∧ 0 ≤ b ∧ b ≤ 63) ∧ RFr J J' ∧ ∃ J1 J2, HFound J J1 n ∧ HFound (zup (zup J 77 0 a) 77 1 b) J2 n ∧ r = sumN (dfB (btA J1) (btA J2)) n) ∨ (¬ (0 ≤ a ∧ a < 12 ∧ 0 ≤ b ∧ b ≤ 63) ∧ r = -1 ∧ J' = J))) J1 r2 J2) : r1 = r2 ∧ ∃ m, LInv J2 m := by
  rcases h1 with ⟨v, a1, hC, hO, hL, hH⟩ | ⟨v, a1, rfl⟩
  · have hI : LInv J1 n := ⟨hC, ?_, ?_, ?_, ?_⟩
    · rcases h2 with ⟨_, hR, Ja, Jb, f1, f2, e⟩ | ⟨q, _⟩
      · refine ⟨?_, n, hI.keepR hR⟩
        rw [a1, e]
        refine sumN_congr (fun x hx => ?_)
        have h8 := hC.1.2.2.2.2.2.1.2.1
        have hlo := hC.1.2.2.2.2.2.1.2.2
        have sA : ∀ x, x < n → SG J1 (14 + 15 + 2 * x) Ja x := fun x hx => hI.sg hx (f1.1 x hx).1
        have sB : ∀ x, x < n → SG J1 (45 + 15 + 2 * x) Jb x := fun x hx => by
          have hM := (f2.1 x hx).1
          unfold MGood at hM
          obtain ⟨q1, q2, _⟩ := hI.2.1.2 x (by omega)
          have z0 : zup (zup J1 77 0 a) 77 1 b 77 0 = a := by rw [zup_ne (by omega), zup_self]
          have z1 : zup (zup J1 77 0 a) 77 1 b 77 1 = b := by rw [zup_self]
          have z8 : ∀ k, zup (zup J1 77 0 a) 77 1 b 78 k = J1 78 k := fun k => by rw [zup_ne (by omega), zup_ne (by omega)]
          rw [z0, z1, z8, z8, ← q1, ← q2] at hM
          have hg := hL.2 x hx
          rw [← hO 2 x (by omega), ← hO 3 x (by omega)] at hg
          exact sg_of hg hM v.1 v.2.1 (hlo x hx).2.2
        have pA := hI.pre
        have pB : HPre J1 45 n := hL.pre h8
        have tA := (hI.hand f1).1 x hx
        have tB := (hand_tie (a := 45) sB pB hH f2).1 x hx
        obtain ⟨u1, u2, u3⟩ := hC.2.1.2.1.ch pA hx
        obtain ⟨w1, w2, w3⟩ := hH.ch pB hx
        exact dif_tie (sA x hx) (sB x hx) ⟨by rw [← tA]; exact u2, u3⟩ ⟨by rw [← tB]; exact w2, w3⟩ (pA.2 x hx).2.2 (pB.2 x hx).2.2
      · exact absurd v q
    · exact h.2.1.keep (fun x k q1 q2 => hO x k (by omega)) (fun k => hO _ _ (by omega)) (fun k => hO _ _ (by omega))
    · obtain ⟨z0, z1, z2, z3⟩ := h.2.2.1
      exact ⟨by rw [hO _ _ (by omega)]; exact z0, by rw [hO _ _ (by omega)]; exact z1, by rw [hO _ _ (by omega)]; exact z2, by rw [hO _ _ (by omega)]; exact z3⟩
    · rw [hO _ _ (by omega), hO _ _ (by omega)]; exact h.2.2.2.1
    · rw [hO _ _ (by omega)]
      intro q
      exact (h.2.2.2.2 q).keep (fun x k q1 q2 => hO x k (by omega)) (fun k => hO _ _ (by omega)) (fun k => hO _ _ (by omega))
  · rcases h2 with ⟨q, _⟩ | ⟨q, b1, rfl⟩
    · exact absurd q v
    · exact ⟨by rw [a1, b1], n, h⟩


theorem LInv.of {J Jc J1 J2 : zJ} {n m : Nat} (h : LInv J n) (hC : Cinv J1 m) (hO : Core Jc J1) (ec : ∀ x k, x = 0 ∨ 6 ≤ x → Jc x k = J x k) (e2 : ∀ x k, ¬ (x = 77 ∨ x = 78) → J2 x k = J1 x k) (hD : DEq Jc 1 (J2 77) (J2 78)) : LInv J2 m := by
  have eo : ∀ x k, x = 0 ∨ (6 ≤ x ∧ x ≤ 10) ∨ 79 ≤ x ∨ x = 76 → J2 x k = J x k := fun x k q => by rw [e2 x k (by omega), hO x k (by omega), ec x k (by omega)]
  refine LInv.mk' hC (fun x k q => e2 x k (by omega)) (hD.keep (fun x k q1 q2 => by rw [e2 x k (by omega), hO x k (by omega)]) (fun _ => rfl) (fun _ => rfl)) ?_ ?_ ?_
  · obtain ⟨z0, z1, z2, z3⟩ := h.2.2.1
    exact ⟨by rw [eo _ _ (by omega)]; exact z0, by rw [eo _ _ (by omega)]; exact z1, by rw [eo _ _ (by omega)]; exact z2, by rw [eo _ _ (by omega)]; exact z3⟩
  · rw [eo _ _ (by omega), eo _ _ (by omega)]; exact h.2.2.2.1
  · rw [eo _ _ (by omega)]
    intro q
    exact (h.2.2.2.2 q).keep (fun x k q1 q2 => eo x k (by omega)) (fun k => eo _ _ (by omega)) (fun k => eo _ _ (by omega))
theorem ptM_ne {J : zJ} {b x i : Nat} {c e q k : Int} (h : ¬ (x = 78 ∧ 4 * b ≤ i ∧ i < 4 * b + 4)) : ptM J b c e q k x i = J x i := by
  unfold ptM
  rw [zup_ne (by omega), zup_ne (by omega), zup_ne (by omega), zup_ne (by omega)]
theorem DEq.wr {J : zJ} {f g : Nat → Int} {b : Nat} {c e q k : Int} (h : DEq J 1 f g) {g' : Nat → Int} (e0 : g' (4 * b) = c) (e1 : g' (4 * b + 1) = e) (e2 : g' (4 * b + 2) = q) (e3 : g' (4 * b + 3) = k) (eg : ∀ i, ¬ (4 * b ≤ i ∧ i < 4 * b + 4) → g' i = g i) : DEq (wrD J 1 b c e q k) 1 f g' := by
  refine ⟨fun i hi => by rw [wrD_ne (by omega)]; exact h.1 i hi, fun x hx => ?_⟩
  by_cases hxb : x = b
  · subst hxb
    rw [e0, e1, e2, e3]
    unfold wrD
    refine ⟨?_, ?_, ?_, ?_⟩
    · rw [zup_ne (by omega), zup_ne (by omega), zup_ne (by omega), zup_self]
    · rw [zup_ne (by omega), zup_ne (by omega), zup_self]
    · rw [zup_ne (by omega), zup_self]
    · rw [zup_self]
  · rw [wrD_ne (by omega), wrD_ne (by omega), wrD_ne (by omega), wrD_ne (by omega), eg _ (by omega), eg _ (by omega), eg _ (by omega), eg _ (by omega)]
    exact h.2 x hx
theorem ptM_at {J : zJ} {b : Nat} {c e q k : Int} : ptM J b c e q k 78 (4 * b) = c ∧ ptM J b c e q k 78 (4 * b + 1) = e ∧ ptM J b c e q k 78 (4 * b + 2) = q ∧ ptM J b c e q k 78 (4 * b + 3) = k := by
  unfold ptM
  refine ⟨?_, ?_, ?_, ?_⟩
  · rw [zup_ne (by omega), zup_ne (by omega), zup_ne (by omega), zup_self]
  · rw [zup_ne (by omega), zup_ne (by omega), zup_self]
  · rw [zup_ne (by omega), zup_self]
  · rw [zup_self]
theorem DEq.num {J : zJ} {f f' g : Nat → Int} {k : Nat} {v : Int} (h : DEq J 1 f g) (e0 : f' k = v) (ef : ∀ i, i ≠ k → f' i = f i) : DEq (zup J 1 k v) 1 f' g := by
  refine ⟨fun i hi => ?_, fun x hx => ?_⟩
  · by_cases e : i = k
    · subst e; rw [zup_self, e0]
    · rw [zup_ne (by omega), ef i e]; exact h.1 i hi
  · rw [zup_ne (by omega), zup_ne (by omega), zup_ne (by omega), zup_ne (by omega)]
    exact h.2 x hx

theorem st_system {J : zJ} {n : Nat} (h : LInv J n) {a b : Int} {r1 r2 : Int} {J1 J2 : zJ} (h1 : (fun r J' => ((0 ≤ a ∧ a < 12 ∧ 0 ≤ b ∧ b ≤ 63) ∧ r = 1 ∧ Cinv J' n ∧ Core (zup (zup J 1 0 a) 1 1 b) J') ∨ (¬ (0 ≤ a ∧ a < 12 ∧ 0 ≤ b ∧ b ≤ 63) ∧ r = -1 ∧ J' = J)) r1 J1) (h2 : (fun (J : zJ) => (fun r J' => ((0 ≤ a ∧ a < 12 ∧ 0 ≤ b ∧ b ≤ 63) ∧ r = 1 ∧ J' = zup (zup J 77 0 a) 77 1 b) ∨ (¬ (0 ≤ a ∧ a < 12 ∧ 0 ≤ b ∧ b ≤ 63) ∧ r = -1 ∧ J' = J))) J1 r2 J2) : r1 = r2 ∧ ∃ m, LInv J2 m := by
  rcases h1 with ⟨v, a1, hC, hO⟩ | ⟨v, a1, rfl⟩
  · rcases h2 with ⟨_, b1, rfl⟩ | ⟨q, _⟩
    · refine ⟨by rw [a1, b1], n, h.of hC hO (fun x k q => by rw [zup_ne (by omega), zup_ne (by omega)]) (fun x k q => by rw [zup_ne (by omega), zup_ne (by omega)]) ?_⟩
      have hb : ∀ k, J1 78 k = J 78 k := fun k => by rw [hO _ _ (by omega), zup_ne (by omega), zup_ne (by omega)]
      have ha : ∀ k, J1 77 k = J 77 k := fun k => by rw [hO _ _ (by omega), zup_ne (by omega), zup_ne (by omega)]
      refine DEq.num (f := fun i => if i = 0 then a else J 77 i) (DEq.num (f := J 77) (h.2.1.keep (fun _ _ _ _ => rfl) (fun _ => rfl) (fun k => by rw [zup_ne (by omega), zup_ne (by omega)]; exact hb k)) rfl (fun i hi => if_neg hi)) (zup_self _ _ _ _) (fun i hi => ?_)
      rw [zup_ne (by omega)]
      by_cases e : i = 0
      · subst e; rw [zup_self]; rfl
      · rw [zup_ne (by omega), if_neg e]; exact ha i
    · exact absurd v q
  · rcases h2 with ⟨q, _⟩ | ⟨q, b1, rfl⟩
    · exact absurd q v
    · exact ⟨by rw [a1, b1], n, h⟩

theorem st_rule {J : zJ} {n : Nat} (h : LInv J n) {w v : Int} {r1 r2 : Int} {J1 J2 : zJ} (h1 : (fun r J' => (((w = 0 ∧ 1 ≤ v ∧ v ≤ 3) ∨ (w = 1 ∧ 1 ≤ v ∧ v ≤ 400 ∧ J 1 4 ≤ v) ∨ (w = 2 ∧ 0 ≤ v ∧ v ≤ J 1 3)) ∧ r = J 1 (2 + w.toNat) ∧ Cinv J' n ∧ Core (zup J 1 (2 + w.toNat) v) J') ∨ (¬ ((w = 0 ∧ 1 ≤ v ∧ v ≤ 3) ∨ (w = 1 ∧ 1 ≤ v ∧ v ≤ 400 ∧ J 1 4 ≤ v) ∨ (w = 2 ∧ 0 ≤ v ∧ v ≤ J 1 3)) ∧ r = -1 ∧ J' = J)) r1 J1) (h2 : (fun (J : zJ) => (fun r J' => (((w = 0 ∧ 1 ≤ v ∧ v ≤ 3) ∨ (w = 1 ∧ 1 ≤ v ∧ v ≤ 400 ∧ J 77 4 ≤ v) ∨ (w = 2 ∧ 0 ≤ v ∧ v ≤ J 77 3)) ∧ r = J 77 (2 + w.toNat) ∧ J' = zup J 77 (2 + w.toNat) v) ∨ (¬ ((w = 0 ∧ 1 ≤ v ∧ v ≤ 3) ∨ (w = 1 ∧ 1 ≤ v ∧ v ≤ 400 ∧ J 77 4 ≤ v) ∨ (w = 2 ∧ 0 ≤ v ∧ v ≤ J 77 3)) ∧ r = -1 ∧ J' = J))) J1 r2 J2) : r1 = r2 ∧ ∃ m, LInv J2 m := by
  have e4 : J1 77 4 = J 1 4 ∧ J1 77 3 = J 1 3 ∧ ∀ i, J1 77 i = J 77 i := by
    have hx : ∀ i, J1 77 i = J 77 i := fun i => by
      rcases h1 with ⟨_, _, _, hO⟩ | ⟨_, _, rfl⟩
      · rw [hO _ _ (by omega), zup_ne (by omega)]
      · rfl
    exact ⟨by rw [hx]; exact (h.2.1.1 4 (by omega)).symm, by rw [hx]; exact (h.2.1.1 3 (by omega)).symm, hx⟩
  obtain ⟨e4, e3, ei⟩ := e4
  simp only [e4, e3] at h2
  rcases h1 with ⟨v0, a1, hC, hO⟩ | ⟨v0, a1, rfl⟩
  · rcases h2 with ⟨_, b1, rfl⟩ | ⟨q, _⟩
    · refine ⟨by rw [a1, b1, ei]; exact h.2.1.1 _ (by omega), n, h.of hC hO (fun x k q => by rw [zup_ne (by omega)]) (fun x k q => by rw [zup_ne (by omega)]) ?_⟩
      have hb : ∀ k, J1 78 k = J 78 k := fun k => by rw [hO _ _ (by omega), zup_ne (by omega)]
      exact DEq.num (f := J 77) (h.2.1.keep (fun _ _ _ _ => rfl) (fun _ => rfl) (fun k => by rw [zup_ne (by omega)]; exact hb k)) (zup_self _ _ _ _) (fun i hi => by rw [zup_ne (by omega)]; exact ei i)
    · exact absurd v0 q
  · rcases h2 with ⟨q, _⟩ | ⟨q, b1, rfl⟩
    · exact absurd q v0
    · exact ⟨by rw [a1, b1], n, h⟩

theorem st_beat {J : zJ} {n : Nat} (h : LInv J n) {c e q k : Int} {r1 r2 : Int} {J1 J2 : zJ} (h1 : (fun r J' => ((((0 ≤ c ∧ c ≤ 4095) ∧ (-1 ≤ e ∧ e ≤ 11) ∧ (1 ≤ q ∧ q ≤ 8) ∧ (0 ≤ k ∧ k ≤ 3)) ∧ n < 8) ∧ r = (n : Int) ∧ Cinv J' (n + 1) ∧ Core (wrD (zup J 1 5 ((n + 1 : Nat) : Int)) 1 n c e q k) J') ∨ (¬ ((0 ≤ c ∧ c ≤ 4095) ∧ (-1 ≤ e ∧ e ≤ 11) ∧ (1 ≤ q ∧ q ≤ 8) ∧ (0 ≤ k ∧ k ≤ 3)) ∧ r = -1 ∧ J' = J) ∨ ((((0 ≤ c ∧ c ≤ 4095) ∧ (-1 ≤ e ∧ e ≤ 11) ∧ (1 ≤ q ∧ q ≤ 8) ∧ (0 ≤ k ∧ k ≤ 3)) ∧ n = 8) ∧ r = -2 ∧ J' = J)) r1 J1) (h2 : (fun (J : zJ) => (fun r J' => ((((0 ≤ c ∧ c ≤ 4095) ∧ (-1 ≤ e ∧ e ≤ 11) ∧ (1 ≤ q ∧ q ≤ 8) ∧ (0 ≤ k ∧ k ≤ 3)) ∧ n < 8) ∧ r = (n : Int) ∧ J' = zup (ptM J n c e q k) 77 5 ((n + 1 : Nat) : Int)) ∨ (¬ ((0 ≤ c ∧ c ≤ 4095) ∧ (-1 ≤ e ∧ e ≤ 11) ∧ (1 ≤ q ∧ q ≤ 8) ∧ (0 ≤ k ∧ k ≤ 3)) ∧ r = -1 ∧ J' = J) ∨ ((((0 ≤ c ∧ c ≤ 4095) ∧ (-1 ≤ e ∧ e ≤ 11) ∧ (1 ≤ q ∧ q ≤ 8) ∧ (0 ≤ k ∧ k ≤ 3)) ∧ n = 8) ∧ r = -2 ∧ J' = J))) J1 r2 J2) : r1 = r2 ∧ ∃ m, LInv J2 m := by
  rcases h1 with ⟨v, a1, hC, hO⟩ | ⟨v, a1, rfl⟩ | ⟨v, a1, rfl⟩
  · rcases h2 with ⟨_, b1, rfl⟩ | ⟨q, _⟩ | ⟨q, _⟩
    · refine ⟨by rw [a1, b1], n + 1, h.of hC hO (fun x k q => by rw [wrD_ne (by omega), zup_ne (by omega)]) (fun x k q => by rw [zup_ne (by omega), ptM_ne (by omega)]) ?_⟩
      have ha : ∀ k, J1 77 k = J 77 k := fun k => by rw [hO _ _ (by omega), wrD_ne (by omega), zup_ne (by omega)]
      have hb : ∀ k, J1 78 k = J 78 k := fun k => by rw [hO _ _ (by omega), wrD_ne (by omega), zup_ne (by omega)]
      obtain ⟨p0, p1, p2, p3⟩ := ptM_at (J := J1) (b := n) (c := c) (e := e) (q := q) (k := k)
      refine DEq.wr (g := J 78) (DEq.num (f := J 77) h.2.1 (zup_self _ _ _ _) (fun i hi => by rw [zup_ne (by omega), ptM_ne (by omega)]; exact ha i)) ?_ ?_ ?_ ?_ (fun i hi => by rw [zup_ne (by omega), ptM_ne (by omega)]; exact hb i)
      · rw [zup_ne (by omega)]; exact p0
      · rw [zup_ne (by omega)]; exact p1
      · rw [zup_ne (by omega)]; exact p2
      · rw [zup_ne (by omega)]; exact p3
    · exact absurd v.1 q
    · omega
  · rcases h2 with ⟨q, _⟩ | ⟨q, b1, rfl⟩ | ⟨q, _⟩
    · exact absurd q.1 v
    · exact ⟨by rw [a1, b1], n, h⟩
    · exact absurd q.1 v
  · rcases h2 with ⟨q, _⟩ | ⟨q, _⟩ | ⟨q, b1, rfl⟩
    · omega
    · exact absurd v.1 q
    · exact ⟨by rw [a1, b1], n, h⟩

theorem st_alter {J : zJ} {n : Nat} (h : LInv J n) {b c e q k : Int} {r1 r2 : Int} {J1 J2 : zJ} (h1 : (fun r J' => (((0 ≤ b ∧ b < n) ∧ ((0 ≤ c ∧ c ≤ 4095) ∧ (-1 ≤ e ∧ e ≤ 11) ∧ (1 ≤ q ∧ q ≤ 8) ∧ (0 ≤ k ∧ k ≤ 3))) ∧ r = 1 ∧ Cinv J' n ∧ Core (wrD J 1 b.toNat c e q k) J') ∨ (¬ ((0 ≤ b ∧ b < n) ∧ ((0 ≤ c ∧ c ≤ 4095) ∧ (-1 ≤ e ∧ e ≤ 11) ∧ (1 ≤ q ∧ q ≤ 8) ∧ (0 ≤ k ∧ k ≤ 3))) ∧ r = -1 ∧ J' = J)) r1 J1) (h2 : (fun (J : zJ) => (fun r J' => (((0 ≤ b ∧ b < n) ∧ ((0 ≤ c ∧ c ≤ 4095) ∧ (-1 ≤ e ∧ e ≤ 11) ∧ (1 ≤ q ∧ q ≤ 8) ∧ (0 ≤ k ∧ k ≤ 3))) ∧ r = 1 ∧ J' = ptM J b.toNat c e q k) ∨ (¬ ((0 ≤ b ∧ b < n) ∧ ((0 ≤ c ∧ c ≤ 4095) ∧ (-1 ≤ e ∧ e ≤ 11) ∧ (1 ≤ q ∧ q ≤ 8) ∧ (0 ≤ k ∧ k ≤ 3))) ∧ r = -1 ∧ J' = J))) J1 r2 J2) : r1 = r2 ∧ ∃ m, LInv J2 m := by
  rcases h1 with ⟨v, a1, hC, hO⟩ | ⟨v, a1, rfl⟩
  · rcases h2 with ⟨_, b1, rfl⟩ | ⟨q, _⟩
    · refine ⟨by rw [a1, b1], n, h.of hC hO (fun x k q => by rw [wrD_ne (by omega)]) (fun x k q => by rw [ptM_ne (by omega)]) ?_⟩
      have ha : ∀ k, J1 77 k = J 77 k := fun k => by rw [hO _ _ (by omega), wrD_ne (by omega)]
      have hb : ∀ k, J1 78 k = J 78 k := fun k => by rw [hO _ _ (by omega), wrD_ne (by omega)]
      obtain ⟨p0, p1, p2, p3⟩ := ptM_at (J := J1) (b := b.toNat) (c := c) (e := e) (q := q) (k := k)
      exact DEq.wr (g := J 78) (h.2.1.keep (fun _ _ _ _ => rfl) (fun i => by rw [ptM_ne (by omega)]; exact ha i) (fun _ => rfl)) p0 p1 p2 p3 (fun i hi => by rw [ptM_ne (by omega)]; exact hb i)
    · exact absurd v q
  · rcases h2 with ⟨q, _⟩ | ⟨q, b1, rfl⟩
    · exact absurd q v
    · exact ⟨by rw [a1, b1], n, h⟩

theorem st_drop {J : zJ} {n : Nat} (h : LInv J n) {r1 r2 : Int} {J1 J2 : zJ} (h1 : (fun r J' => (0 < n ∧ r = ((n - 1 : Nat) : Int) ∧ Cinv J' (n - 1) ∧ Core (zup J 1 5 ((n - 1 : Nat) : Int)) J') ∨ (n = 0 ∧ r = -3 ∧ J' = J)) r1 J1) (h2 : (fun (J : zJ) => (fun r J' => (0 < n ∧ r = ((n - 1 : Nat) : Int) ∧ J' = zup J 77 5 ((n - 1 : Nat) : Int)) ∨ (n = 0 ∧ r = -3 ∧ J' = J))) J1 r2 J2) : r1 = r2 ∧ ∃ m, LInv J2 m := by
  rcases h1 with ⟨v, a1, hC, hO⟩ | ⟨v, a1, rfl⟩
  · rcases h2 with ⟨_, b1, rfl⟩ | ⟨q, _⟩
    · refine ⟨by rw [a1, b1], n - 1, h.of hC hO (fun x k q => by rw [zup_ne (by omega)]) (fun x k q => by rw [zup_ne (by omega)]) ?_⟩
      have ha : ∀ k, J1 77 k = J 77 k := fun k => by rw [hO _ _ (by omega), zup_ne (by omega)]
      have hb : ∀ k, J1 78 k = J 78 k := fun k => by rw [hO _ _ (by omega), zup_ne (by omega)]
      exact DEq.num (f := J 77) (h.2.1.keep (fun _ _ _ _ => rfl) (fun _ => rfl) (fun k => by rw [zup_ne (by omega)]; exact hb k)) (zup_self _ _ _ _) (fun i hi => by rw [zup_ne (by omega)]; exact ha i)
    · omega
  · rcases h2 with ⟨q, _⟩ | ⟨q, b1, rfl⟩
    · omega
    · exact ⟨by rw [a1, b1], n, h⟩

theorem st_keep {J : zJ} {n : Nat} (h : LInv J n) {r1 r2 : Int} {J1 J2 : zJ} (h1 : (fun r J' => r = 1 ∧ Cinv J' n ∧ J' = zup (cpyN J 6 1 8) 0 2 1) r1 J1) (h2 : (fun (J : zJ) => (fun r J' => r = 1 ∧ J' = kpB J 32)) J1 r2 J2) : r1 = r2 ∧ ∃ m, LInv J2 m := by
  obtain ⟨a1, hC, e1⟩ := h1
  obtain ⟨b1, rfl⟩ := h2
  have c : ∀ x k, ¬ (6 ≤ x ∧ x ≤ 10) → ¬ (x = 0 ∧ k = 2) → J1 x k = J x k := fun x k q1 q2 => by rw [e1, zup_ne q2]; unfold cpyN; rw [if_neg (by omega), if_neg (by omega)]
  have d : ∀ x k, ¬ (x = 76 ∧ k = 2) → x ≠ 79 → kpB J1 32 x k = J1 x k := fun x k q1 q2 => by unfold kpB; rw [if_neg q1, if_neg (by omega), if_neg (by omega)]
  refine ⟨by rw [a1, b1], n, LInv.mk' hC (fun x k q => d x k (by omega) (by omega)) ?_ ?_ ?_ ?_⟩
  · exact h.2.1.keep (fun x k q1 q2 => by rw [d _ _ (by omega) (by omega), c _ _ (by omega) (by omega)]) (fun k => by rw [d _ _ (by omega) (by omega), c _ _ (by omega) (by omega)]) (fun k => by rw [d _ _ (by omega) (by omega), c _ _ (by omega) (by omega)])
  · obtain ⟨z0, z1, z2, z3⟩ := h.2.2.1
    exact ⟨by rw [d _ _ (by omega) (by omega), c _ _ (by omega) (by omega)]; exact z0, by rw [d _ _ (by omega) (by omega), c _ _ (by omega) (by omega)]; exact z1, by rw [d _ _ (by omega) (by omega), c _ _ (by omega) (by omega)]; exact z2, by rw [d _ _ (by omega) (by omega), c _ _ (by omega) (by omega)]; exact z3⟩
  · rw [d 0 2 (by omega) (by omega), e1, zup_self]; rfl
  · intro _
    have k6 : ∀ k, k < 6 → J1 6 k = J 1 k := fun k hk => by rw [e1, zup_ne (by omega)]; unfold cpyN; rw [if_pos ⟨rfl, hk⟩]
    have k7 : ∀ x b, 7 ≤ x → x ≤ 10 → b < 8 → J1 x b = J (x - 5) b := fun x b q1 q2 q3 => by rw [e1, zup_ne (by omega)]; unfold cpyN; rw [if_neg (by omega), if_pos (by omega), show 1 + (x - 6) = x - 5 by omega]
    have m6 : ∀ k, k < 6 → kpB J1 32 79 k = J 77 k := fun k hk => by unfold kpB; rw [if_neg (by omega), if_pos ⟨rfl, hk⟩, c _ _ (by omega) (by omega)]
    have m7 : ∀ k, k < 32 → kpB J1 32 79 (6 + k) = J 78 k := fun k hk => by unfold kpB; rw [if_neg (by omega), if_neg (by omega), if_pos ⟨rfl, by omega, by omega⟩, show 6 + k - 6 = k by omega, c _ _ (by omega) (by omega)]
    refine ⟨fun k hk => by rw [d _ _ (by omega) (by omega), k6 k hk, m6 k hk]; exact h.2.1.1 k hk, fun b hb => ?_⟩
    show kpB J1 32 (6 + 1) b = kpB J1 32 79 (6 + 4 * b) ∧ kpB J1 32 (6 + 2) b = kpB J1 32 79 (6 + (4 * b + 1)) ∧ kpB J1 32 (6 + 3) b = kpB J1 32 79 (6 + (4 * b + 2)) ∧ kpB J1 32 (6 + 4) b = kpB J1 32 79 (6 + (4 * b + 3))
    exact ⟨by rw [d (6 + 1) b (by omega) (by omega), k7 (6 + 1) b (by omega) (by omega) hb, m7 (4 * b) (by omega)]; exact (h.2.1.2 b hb).1, by rw [d (6 + 2) b (by omega) (by omega), k7 (6 + 2) b (by omega) (by omega) hb, m7 (4 * b + 1) (by omega)]; exact (h.2.1.2 b hb).2.1, by rw [d (6 + 3) b (by omega) (by omega), k7 (6 + 3) b (by omega) (by omega) hb, m7 (4 * b + 2) (by omega)]; exact (h.2.1.2 b hb).2.2.1, by rw [d (6 + 4) b (by omega) (by omega), k7 (6 + 4) b (by omega) (by omega) hb, m7 (4 * b + 3) (by omega)]; exact (h.2.1.2 b hb).2.2.2⟩

theorem st_back {J : zJ} {n : Nat} (h : LInv J n) {r1 r2 : Int} {J1 J2 : zJ} (h1 : (fun r J' => (J 0 2 = 1 ∧ r = 1 ∧ (∃ m, VD J 6 m ∧ Cinv J' m) ∧ Core (cpyN J 1 6 8) J') ∨ (J 0 2 = 0 ∧ r = -3 ∧ J' = J)) r1 J1) (h2 : (fun (J : zJ) => (fun r J' => (J 76 2 = 1 ∧ r = 1 ∧ J' = bkB J 32) ∨ (J 76 2 = 0 ∧ r = -3 ∧ J' = J))) J1 r2 J2) : r1 = r2 ∧ ∃ m, LInv J2 m := by
  have ek : J1 76 2 = J 0 2 := by
    rw [h.2.2.2.1]
    rcases h1 with ⟨_, _, _, hO⟩ | ⟨_, _, rfl⟩
    · rw [hO _ _ (by omega)]; unfold cpyN; rw [if_neg (by omega), if_neg (by omega)]
    · rfl
  rcases h1 with ⟨v, a1, ⟨m, hV, hC⟩, hO⟩ | ⟨v, a1, rfl⟩
  · rcases h2 with ⟨_, b1, rfl⟩ | ⟨q, _⟩
    · have hK := h.2.2.2.2 v
      have c : ∀ x k, ¬ (1 ≤ x ∧ x ≤ 5) → x ≤ 10 ∨ 76 ≤ x → J1 x k = J x k := fun x k q1 q2 => by rw [hO _ _ q2]; unfold cpyN; rw [if_neg (by omega), if_neg (by omega)]
      have d : ∀ x k, x ≠ 77 → x ≠ 78 → bkB J1 32 x k = J1 x k := fun x k q1 q2 => by unfold bkB; rw [if_neg (by omega), if_neg (by omega)]
      refine ⟨by rw [a1, b1], m, LInv.mk' hC (fun x k q => d x k (by omega) (by omega)) ?_ ?_ ?_ ?_⟩
      · have k6 : ∀ k, k < 6 → J1 1 k = J 6 k := fun k hk => by rw [hO _ _ (by omega)]; unfold cpyN; rw [if_pos ⟨rfl, hk⟩]
        have k7 : ∀ x b, 2 ≤ x → x ≤ 5 → b < 8 → J1 x b = J (x + 5) b := fun x b q1 q2 q3 => by rw [hO _ _ (by omega)]; unfold cpyN; rw [if_neg (by omega), if_pos (by omega), show 6 + (x - 1) = x + 5 by omega]
        have m6 : ∀ k, k < 6 → bkB J1 32 77 k = J 79 k := fun k hk => by unfold bkB; rw [if_pos ⟨rfl, hk⟩, c _ _ (by omega) (by omega)]
        have m7 : ∀ k, k < 32 → bkB J1 32 78 k = J 79 (6 + k) := fun k hk => by unfold bkB; rw [if_neg (by omega), if_pos ⟨rfl, hk⟩, c _ _ (by omega) (by omega)]
        refine ⟨fun k hk => by rw [d _ _ (by omega) (by omega), k6 k hk, m6 k hk]; exact hK.1 k hk, fun b hb => ?_⟩
        exact ⟨by rw [d (1 + 1) b (by omega) (by omega), k7 (1 + 1) b (by omega) (by omega) hb, m7 (4 * b) (by omega)]; exact (hK.2 b hb).1, by rw [d (1 + 2) b (by omega) (by omega), k7 (1 + 2) b (by omega) (by omega) hb, m7 (4 * b + 1) (by omega)]; exact (hK.2 b hb).2.1, by rw [d (1 + 3) b (by omega) (by omega), k7 (1 + 3) b (by omega) (by omega) hb, m7 (4 * b + 2) (by omega)]; exact (hK.2 b hb).2.2.1, by rw [d (1 + 4) b (by omega) (by omega), k7 (1 + 4) b (by omega) (by omega) hb, m7 (4 * b + 3) (by omega)]; exact (hK.2 b hb).2.2.2⟩
      · obtain ⟨z0, z1, z2, z3⟩ := h.2.2.1
        exact ⟨by rw [d _ _ (by omega) (by omega), c _ _ (by omega) (by omega)]; exact z0, by rw [d _ _ (by omega) (by omega), c _ _ (by omega) (by omega)]; exact z1, by rw [d _ _ (by omega) (by omega), c _ _ (by omega) (by omega)]; exact z2, by rw [d _ _ (by omega) (by omega), c _ _ (by omega) (by omega)]; exact z3⟩
      · rw [d _ _ (by omega) (by omega), d _ _ (by omega) (by omega), c _ _ (by omega) (by omega), c _ _ (by omega) (by omega)]; exact h.2.2.2.1
      · intro _
        exact hK.keep (fun x k q1 q2 => by rw [d _ _ (by omega) (by omega), c _ _ (by omega) (by omega)]) (fun k => by rw [d _ _ (by omega) (by omega), c _ _ (by omega) (by omega)]) (fun k => by rw [d _ _ (by omega) (by omega), c _ _ (by omega) (by omega)])
    · omega
  · rcases h2 with ⟨q, _⟩ | ⟨q, b1, rfl⟩
    · omega
    · exact ⟨by rw [a1, b1], n, h⟩

