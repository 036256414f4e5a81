
def MGs (J : zJ) (b : Nat) (s : GSt) (lc lm : Int) : Prop := rkd 2 s.1 ∧ (okL s.2 ∧ s.2 ≠ [] ∧ ∀ y ∈ s.2, y < 128 ^ (s.1 % 16 + lc).toNat) ∧ J 80 b = s.1 / 256 + lm ∧ J 81 b = s.1 / 16 % 16 ∧ J 82 b = s.1 % 16 + lc ∧ J 83 b = (s.2.length : Int) ∧ Ent J b (s.1 % 16 + lc).toNat s.2
/-- the fold's state, as the reference holds it for a beat -/
def MG (J : zJ) (b : Nat) (s : GSt) (lc lm : Int) : Prop := (s = (1073741824, []) ∧ J 80 b = 100 ∧ J 81 b = 0 ∧ J 82 b = 0 ∧ J 83 b = 0) ∨ MGs J b s lc lm
theorem MG.keep {J J' : zJ} {b : Nat} {s : GSt} {lc lm : Int} (h : MG J b s lc lm) (e : ∀ x k, 80 ≤ x → x ≤ 84 → J' x k = J x k) : MG J' b s lc lm := by
  rcases h with ⟨h0, h1, h2, h3, h4⟩ | ⟨h0, h1, h2, h3, h4, h5, h6⟩
  · exact Or.inl ⟨h0, by rw [e _ _ (by omega) (by omega)]; exact h1, by rw [e _ _ (by omega) (by omega)]; exact h2, by rw [e _ _ (by omega) (by omega)]; exact h3, by rw [e _ _ (by omega) (by omega)]; exact h4⟩
  · exact Or.inr ⟨h0, h1, by rw [e _ _ (by omega) (by omega)]; exact h2, by rw [e _ _ (by omega) (by omega)]; exact h3, by rw [e _ _ (by omega) (by omega)]; exact h4, by rw [e _ _ (by omega) (by omega)]; exact h5, fun k hk i hi => by rw [e _ _ (by omega) (by omega)]; exact h6 k hk i hi⟩
theorem MGs_out {J J' : zJ} {b n : Nat} {lk ex c r lc lm : Int} {xs : List Int} (h : JOut J J' b n lk ex (gins c xs)) (hr : rkd 2 r) (hlc : 0 ≤ lc) (hn : (n : Int) = r % 16 + lc) (h1 : lk = r / 256 + lm) (h2 : ex = r / 16 % 16) (hok : okL xs) (hx : ∀ y ∈ xs, y < 128 ^ n) (hc0 : 0 ≤ c) (hc : c < 128 ^ n) (hn3 : n ≤ 3) : MGs J' b (r, gins c xs) lc lm := by
  have en : (r % 16 + lc).toNat = n := by omega
  obtain ⟨a1, a2, a3, a4, a5, a6⟩ := h
  have hcb : c < 2097152 := by
    have p0 : (128 : Int) ^ 0 = 1 := by decide
    have p1 : (128 : Int) ^ 1 = 128 := by decide
    have p2 : (128 : Int) ^ 2 = 16384 := by decide
    have p3 : (128 : Int) ^ 3 = 2097152 := by decide
    rcases (show n = 0 ∨ n = 1 ∨ n = 2 ∨ n = 3 by omega) with rfl | rfl | rfl | rfl <;> omega
  refine ⟨hr, ⟨okL_gins hok hc0 hcb, gins_ne c xs, fun y hy => ?_⟩, by rw [a1, h1], by rw [a2, h2], by rw [a3]; exact hn, a4, ?_⟩
  · show y < 128 ^ (r % 16 + lc).toNat
    rw [en]
    rcases oi_mem (List.mem_of_mem_take hy) with e | e
    · rw [e]; exact hc
    · exact hx y e
  · show Ent J' b (r % 16 + lc).toNat (gins c xs)
    rw [en]; exact a5
theorem tp_oi {xs : List Int} {c : Int} (h : ∀ k, k < xs.length → 0 ≤ xs.getD k 0 ∧ xs.getD k 0 ≤ 71) (hc : 0 ≤ c ∧ c ≤ 71) : ∀ k, k < (oi c xs).length → 0 ≤ (oi c xs).getD k 0 ∧ (oi c xs).getD k 0 ≤ 71 := by
  intro k hk
  rw [List.getD_eq_getElem?_getD, List.getElem?_eq_getElem hk]
  show 0 ≤ (oi c xs)[k] ∧ (oi c xs)[k] ≤ 71
  rcases oi_mem (List.getElem_mem hk) with e | e
  · rw [e]; exact hc
  · obtain ⟨j, hj, ej⟩ := List.mem_iff_getElem.mp e
    have := h j hj
    rw [List.getD_eq_getElem?_getD, List.getElem?_eq_getElem hj] at this
    rw [← ej]; exact this
theorem hrs_le {base x h : Int} (hb0 : 0 ≤ base) (hb1 : base < 12) (hx : bt1 x) (h0 : 0 ≤ h ∧ h ≤ 4095) : 0 ≤ hrs base x h ∧ hrs base x h ≤ 4095 := by
  unfold hrs
  split
  · exact h0
  · obtain ⟨k, rfl⟩ := Int.eq_ofNat_of_zero_le (show 0 ≤ x by omega)
    have := snd_eq hb0 hb1 (k := k) (by have := hx.2; omega)
    exact zor_le h0.1 h0.2 (by omega) (by omega)
abbrev QFr (J J' : zJ) (b : Nat) : Prop := ∀ x k, ¬ (80 ≤ x ∧ x ≤ 83 ∧ k = b) → ¬ (x = 84 ∧ 60 * b ≤ k ∧ k < 60 * b + 60) → x ≠ 85 → ¬ (x = 76 ∧ k = 10) → J' x k = J x k

theorem mX6_judge {l : Launch} {G : gx_G} (hG : gx_OK G 91) (J : zJ) {b : Nat} (hb : b < 8) {low one two cn : Int} (hb0 : 0 ≤ J 77 0) (hb1 : J 77 0 < 12) (hc0 : 0 ≤ J 78 (4 * b)) (hc1 : J 78 (4 * b) ≤ 4095) (hw0 : -1 ≤ J 78 (4 * b + 1)) (hw1 : J 78 (4 * b + 1) ≤ 11) (hlo : bt1 low) (hcm : cmb one two cn) (s : GSt) (hMG : MG J b s (bz (0 ≤ low)) (bz (low < 0 ∧ 0 ≤ J 78 (4 * b + 1)))) : zMv l G yX6_judge cX6_judge 15 rmX6_judge [.ref (gx_ad G 76), .int (zI (b : Int)), .int (zI low), .int (zI one), .int (zI two)] J (fun J' => MG J' b (gstep s (rnk (J 78 (4 * b)) (hrs (J 77 0) two (hrs (J 77 0) one 0)) cn, pkA low one two)) (bz (0 ≤ low)) (bz (low < 0 ∧ 0 ≤ J 78 (4 * b + 1))) ∧ QFr J J' b) := by
  refine gx_mv hG (by decide) (Nat.le_of_ble_eq_true rfl) (fun X hla B Rt => ?_)
  subst hla
  have B : gx_B G X RX6 cX6_judge 15 rmX6_judge 91 := B
  show gx_WG G X 15 (zh J) 0 [(0, .ref (gx_ad G 76)), (1, .int (zI (b : Int))), (2, .int (zI low)), (3, .int (zI one)), (4, .int (zI two))] []
  obtain ⟨nn, hnn⟩ : ∃ nn : Nat, nn = cn.toNat + (bz (0 ≤ low)).toNat := ⟨_, rfl⟩
  have hcd : Cand (prs two (prs one (prs low []))) nn (pkA low one two) := by rw [hnn]; exact cand_of hlo hcm
  have hlc : bz (0 ≤ low) = 0 ∨ bz (0 ≤ low) = 1 := bz_01 _
  have hlm : bz (low < 0 ∧ 0 ≤ J 78 (4 * b + 1)) = 0 ∨ bz (low < 0 ∧ 0 ≤ J 78 (4 * b + 1)) = 1 := bz_01 _
  have hcn : 0 ≤ cn ∧ cn ≤ 2 := by rcases hcm with ⟨-, -, q⟩ | ⟨-, -, q⟩ | ⟨-, -, q⟩ <;> omega
  have hn3 : nn ≤ 3 := by omega
  have hnI : (nn : Int) = cn + bz (0 ≤ low) := by omega
  have hbo : bt1 one := by rcases hcm with ⟨q, -, -⟩ | ⟨q, -, -⟩ | ⟨q, -, -⟩ <;> exact ⟨by omega, by omega⟩
  have hbt : bt1 two := by rcases hcm with ⟨-, q, -⟩ | ⟨-, q, -⟩ | ⟨-, q, -⟩ <;> exact ⟨by omega, by omega⟩
  have hlo1 := hlo.1
  have hlo2 := hlo.2
  have hbo1 := hbo.1
  have hbo2 := hbo.2
  have hbt1 := hbt.1
  have hbt2 := hbt.2
  have hm9 := ones_le (zless (J 78 (4 * b)) (hrs (J 77 0) two (hrs (J 77 0) one 0)))
  have he9 := ones_le (zless (hrs (J 77 0) two (hrs (J 77 0) one 0)) (J 78 (4 * b)))
  have hrk : rnk (J 78 (4 * b)) (hrs (J 77 0) two (hrs (J 77 0) one 0)) cn = (ones (zless (J 78 (4 * b)) (hrs (J 77 0) two (hrs (J 77 0) one 0))) * 16 + ones (zless (hrs (J 77 0) two (hrs (J 77 0) one 0)) (J 78 (4 * b)))) * 16 + cn := rfl
  have hrd : rkd 2 (rnk (J 78 (4 * b)) (hrs (J 77 0) two (hrs (J 77 0) one 0)) cn) := rkd_rnk hcn.1 hcn.2 hcn.2
  have hst : (s = (1073741824, []) ∧ J 83 b = 0 ∧ 10000 * J 80 b + 100 * J 81 b + J 82 b = 1000000) ∨ (0 < J 83 b ∧ J 83 b ≤ 20 ∧ MGs J b s (bz (0 ≤ low)) (bz (low < 0 ∧ 0 ≤ J 78 (4 * b + 1)))) := by
    rcases hMG with ⟨q0, q1, q2, q3, q4⟩ | q
    · exact Or.inl ⟨q0, q4, by omega⟩
    · have q1 := q.2.2.2.2.2.1
      have q2 := q.2.1.1.2.1
      have q3 : 0 < s.2.length := List.length_pos_iff.mpr q.2.1.2.1
      exact Or.inr ⟨by omega, by omega, q⟩
  have hcase : (s = (1073741824, []) ∧ J 83 b = 0 ∧ 10000 * J 80 b + 100 * J 81 b + J 82 b = 1000000) ∨ (0 < J 83 b ∧ rkd 2 s.1 ∧ J 80 b = s.1 / 256 + bz (low < 0 ∧ 0 ≤ J 78 (4 * b + 1)) ∧ J 81 b = s.1 / 16 % 16 ∧ J 82 b = s.1 % 16 + bz (0 ≤ low)) := by
    rcases hst with q | ⟨q1, q2, q3⟩
    · exact Or.inl q
    · exact Or.inr ⟨q1, q3.1, q3.2.2.1, q3.2.2.2.1, q3.2.2.2.2.1⟩
  have hlt : 10000 * (ones (zless (J 78 (4 * b)) (hrs (J 77 0) two (hrs (J 77 0) one 0))) + bz (low < 0 ∧ 0 ≤ J 78 (4 * b + 1))) + 100 * ones (zless (hrs (J 77 0) two (hrs (J 77 0) one 0)) (J 78 (4 * b))) + (nn : Int) < 10000 * J 80 b + 100 * J 81 b + J 82 b → rnk (J 78 (4 * b)) (hrs (J 77 0) two (hrs (J 77 0) one 0)) cn < s.1 := by
    rcases hcase with ⟨q0, q1, q2⟩ | ⟨q1, q2, q3, q4, q5⟩
    · intro _; rw [q0]; obtain ⟨r1, r2, r3⟩ := hrd; show _ < (1073741824 : Int); omega
    · obtain ⟨r1, r2, r3⟩ := q2
      intro q; rw [hrk]; omega
  have hgt : 0 < J 83 b → 10000 * J 80 b + 100 * J 81 b + J 82 b < 10000 * (ones (zless (J 78 (4 * b)) (hrs (J 77 0) two (hrs (J 77 0) one 0))) + bz (low < 0 ∧ 0 ≤ J 78 (4 * b + 1))) + 100 * ones (zless (hrs (J 77 0) two (hrs (J 77 0) one 0)) (J 78 (4 * b))) + (nn : Int) → s.1 < rnk (J 78 (4 * b)) (hrs (J 77 0) two (hrs (J 77 0) one 0)) cn := by
    rcases hcase with ⟨q0, q1, q2⟩ | ⟨q1, q2, q3, q4, q5⟩
    · intro q; omega
    · obtain ⟨r1, r2, r3⟩ := q2
      intro _ q; rw [hrk]; omega
  have heq : 10000 * (ones (zless (J 78 (4 * b)) (hrs (J 77 0) two (hrs (J 77 0) one 0))) + bz (low < 0 ∧ 0 ≤ J 78 (4 * b + 1))) + 100 * ones (zless (hrs (J 77 0) two (hrs (J 77 0) one 0)) (J 78 (4 * b))) + (nn : Int) = 10000 * J 80 b + 100 * J 81 b + J 82 b → rnk (J 78 (4 * b)) (hrs (J 77 0) two (hrs (J 77 0) one 0)) cn = s.1 ∧ MGs J b s (bz (0 ≤ low)) (bz (low < 0 ∧ 0 ≤ J 78 (4 * b + 1))) := by
    rcases hst with ⟨q0, q1, q2⟩ | ⟨q1, q2, q3⟩
    · intro q; omega
    · obtain ⟨r1, r2, r3⟩ := q3.1
      have q4 := q3.2.2.1
      have q5 := q3.2.2.2.1
      have q6 := q3.2.2.2.2.1
      intro q; exact ⟨by rw [hrk]; omega, q3⟩
  have hret : ∀ Jp : zJ, (∀ x k, x ≠ 85 → ¬ (x = 76 ∧ k = 10) → Jp x k = J x k) → 0 < J 83 b → 10000 * J 80 b + 100 * J 81 b + J 82 b < 10000 * (ones (zless (J 78 (4 * b)) (hrs (J 77 0) two (hrs (J 77 0) one 0))) + bz (low < 0 ∧ 0 ≤ J 78 (4 * b + 1))) + 100 * ones (zless (hrs (J 77 0) two (hrs (J 77 0) one 0)) (J 78 (4 * b))) + (nn : Int) → (fun J' => MG J' b (gstep s (rnk (J 78 (4 * b)) (hrs (J 77 0) two (hrs (J 77 0) one 0)) cn, pkA low one two)) (bz (0 ≤ low)) (bz (low < 0 ∧ 0 ≤ J 78 (4 * b + 1))) ∧ QFr J J' b) Jp := by
    intro Jp fr1 q1 q2
    have q3 := hgt q1 q2
    have e : gstep s (rnk (J 78 (4 * b)) (hrs (J 77 0) two (hrs (J 77 0) one 0)) cn, pkA low one two) = s := by
      unfold gstep
      rw [if_neg (by show ¬ rnk (J 78 (4 * b)) (hrs (J 77 0) two (hrs (J 77 0) one 0)) cn < s.1; omega), if_neg (by show ¬ rnk (J 78 (4 * b)) (hrs (J 77 0) two (hrs (J 77 0) one 0)) cn = s.1; omega)]
    refine ⟨?_, fun x k h1 h2 h3 h4 => fr1 x k h3 h4⟩
    rw [e]; exact hMG.keep (fun x k h1 h2 => fr1 x k (by omega) (by omega))
  have hfl : ∀ Jp J2 J' : zJ, (∀ x k, x ≠ 85 → ¬ (x = 76 ∧ k = 10) → Jp x k = J x k) → J2 = zup Jp 83 b 0 → JOut J2 J' b nn (ones (zless (J 78 (4 * b)) (hrs (J 77 0) two (hrs (J 77 0) one 0))) + bz (low < 0 ∧ 0 ≤ J 78 (4 * b + 1))) (ones (zless (hrs (J 77 0) two (hrs (J 77 0) one 0)) (J 78 (4 * b)))) (gins (pkA low one two) []) → 10000 * (ones (zless (J 78 (4 * b)) (hrs (J 77 0) two (hrs (J 77 0) one 0))) + bz (low < 0 ∧ 0 ≤ J 78 (4 * b + 1))) + 100 * ones (zless (hrs (J 77 0) two (hrs (J 77 0) one 0)) (J 78 (4 * b))) + (nn : Int) < 10000 * J 80 b + 100 * J 81 b + J 82 b → (fun J' => MG J' b (gstep s (rnk (J 78 (4 * b)) (hrs (J 77 0) two (hrs (J 77 0) one 0)) cn, pkA low one two)) (bz (0 ≤ low)) (bz (low < 0 ∧ 0 ≤ J 78 (4 * b + 1))) ∧ QFr J J' b) J' := by
    intro Jp J2 J' fr1 e2 hO q
    have q3 := hlt q
    have e : gstep s (rnk (J 78 (4 * b)) (hrs (J 77 0) two (hrs (J 77 0) one 0)) cn, pkA low one two) = (rnk (J 78 (4 * b)) (hrs (J 77 0) two (hrs (J 77 0) one 0)) cn, gins (pkA low one two) []) := by
      unfold gstep
      rw [if_pos q3, gins_nil]
    refine ⟨?_, fun x k h1 h2 h3 h4 => by rw [hO.2.2.2.2.2 x k h1 h2, e2, zup_ne (by omega)]; exact fr1 x k h3 h4⟩
    rw [e]
    refine Or.inr (MGs_out hO hrd (by omega) (by rw [hrk]; omega) (by rw [hrk]; omega) (by rw [hrk]; omega) okL_nil (fun y hy => by cases hy) hcd.2.2.2.2.1 hcd.2.2.2.2.2 hn3)
  have hsame : 10000 * (ones (zless (J 78 (4 * b)) (hrs (J 77 0) two (hrs (J 77 0) one 0))) + bz (low < 0 ∧ 0 ≤ J 78 (4 * b + 1))) + 100 * ones (zless (hrs (J 77 0) two (hrs (J 77 0) one 0)) (J 78 (4 * b))) + (nn : Int) = 10000 * J 80 b + 100 * J 81 b + J 82 b → okL s.2 ∧ (∀ k, k < s.2.length → s.2.getD k 0 < 128 ^ nn) ∧ Ent J b nn s.2 ∧ J 83 b = (s.2.length : Int) := by
    intro q
    obtain ⟨q1, q2⟩ := heq q
    have en : (s.1 % 16 + bz (0 ≤ low)).toNat = nn := by rw [← q1, hrk]; omega
    obtain ⟨m1, m2, m3, m4, m5, m6, m7⟩ := q2
    rw [en] at m2 m7
    refine ⟨m2.1, fun k hk => ?_, m7, m6⟩
    rw [List.getD_eq_getElem?_getD, List.getElem?_eq_getElem hk]
    exact m2.2.2 _ (List.getElem_mem hk)
  have hfe : ∀ Jp J' : zJ, (∀ x k, x ≠ 85 → ¬ (x = 76 ∧ k = 10) → Jp x k = J x k) → JOut Jp J' b nn (ones (zless (J 78 (4 * b)) (hrs (J 77 0) two (hrs (J 77 0) one 0))) + bz (low < 0 ∧ 0 ≤ J 78 (4 * b + 1))) (ones (zless (hrs (J 77 0) two (hrs (J 77 0) one 0)) (J 78 (4 * b)))) (gins (pkA low one two) s.2) → 10000 * (ones (zless (J 78 (4 * b)) (hrs (J 77 0) two (hrs (J 77 0) one 0))) + bz (low < 0 ∧ 0 ≤ J 78 (4 * b + 1))) + 100 * ones (zless (hrs (J 77 0) two (hrs (J 77 0) one 0)) (J 78 (4 * b))) + (nn : Int) = 10000 * J 80 b + 100 * J 81 b + J 82 b → (fun J' => MG J' b (gstep s (rnk (J 78 (4 * b)) (hrs (J 77 0) two (hrs (J 77 0) one 0)) cn, pkA low one two)) (bz (0 ≤ low)) (bz (low < 0 ∧ 0 ≤ J 78 (4 * b + 1))) ∧ QFr J J' b) J' := by
    intro Jp J' fr1 hO q
    obtain ⟨q1, q2⟩ := heq q
    have e : gstep s (rnk (J 78 (4 * b)) (hrs (J 77 0) two (hrs (J 77 0) one 0)) cn, pkA low one two) = (rnk (J 78 (4 * b)) (hrs (J 77 0) two (hrs (J 77 0) one 0)) cn, gins (pkA low one two) s.2) := by
      unfold gstep
      rw [if_neg (by show ¬ rnk (J 78 (4 * b)) (hrs (J 77 0) two (hrs (J 77 0) one 0)) cn < s.1; omega), if_pos q1, q1]
    refine ⟨?_, fun x k h1 h2 h3 h4 => by rw [hO.2.2.2.2.2 x k h1 h2]; exact fr1 x k h3 h4⟩
    rw [e]
    have en : (s.1 % 16 + bz (0 ≤ low)).toNat = nn := by rw [← q1, hrk]; omega
    refine Or.inr (MGs_out hO hrd (by omega) (by rw [hrk]; omega) (by rw [hrk]; omega) (by rw [hrk]; omega) q2.2.1.1 (fun y hy => by have := q2.2.1.2.2 y hy; rw [en] at this; exact this) hcd.2.2.2.2.1 hcd.2.2.2.2.2 hn3)
  have h58 : ∀ Jp : zJ, TR Jp (prs two (prs one (prs low []))) → (∀ x k, x ≠ 85 → ¬ (x = 76 ∧ k = 10) → Jp x k = J x k) → gx_WG G X 15 (zh Jp) 58 [(0, .ref (gx_ad G 76)), (1, .int (zI (b : Int))), (2, .int (zI low)), (3, .int (zI one)), (4, .int (zI two)), (5, .int (zI (hrs (J 77 0) two (hrs (J 77 0) one 0))))] [] := by
    intro Jp tr1 fr1
    have j10 : Jp 76 10 = (nn : Int) := by rw [tr1.1, hcd.1]
    have j80 := fr1 80 b (by omega) (by omega)
    have j81 := fr1 81 b (by omega) (by omega)
    have j82 := fr1 82 b (by omega) (by omega)
    have j83 := fr1 83 b (by omega) (by omega)
    have hbnd : 0 ≤ J 83 b ∧ J 83 b ≤ 20 ∧ 0 ≤ 10000 * J 80 b + 100 * J 81 b + J 82 b ∧ 10000 * J 80 b + 100 * J 81 b + J 82 b ≤ 1000000 := by
      rcases hst with ⟨q0, q1, q2⟩ | ⟨q1, q2, q3⟩
      · omega
      · obtain ⟨r1, r2, r3⟩ := q3.1
        have q4 := q3.2.2.1
        have q5 := q3.2.2.2.1
        have q6 := q3.2.2.2.2.1
        omega
    have h101 : ∀ v : Int, v = ones (zless (J 78 (4 * b)) (hrs (J 77 0) two (hrs (J 77 0) one 0))) + bz (low < 0 ∧ 0 ≤ J 78 (4 * b + 1)) → gx_WG G X 15 (zh Jp) 101 [(0, .ref (gx_ad G 76)), (1, .int (zI (b : Int))), (2, .int (zI low)), (3, .int (zI one)), (4, .int (zI two)), (5, .int (zI (hrs (J 77 0) two (hrs (J 77 0) one 0)))), (6, .int (zI (J 78 (4 * b))))] [.int (zI v)] := by
      intro v hv
      refine z_istore (fun v9 => [(0, .ref (gx_ad G 76)), (1, .int (zI (b : Int))), (2, .int (zI low)), (3, .int (zI one)), (4, .int (zI two)), (5, .int (zI (hrs (J 77 0) two (hrs (J 77 0) one 0)))), (6, .int (zI (J 78 (4 * b)))), (7, .int (zI v9))]) B dX6_judge_101 (by decide) rfl (fun _ => rfl) (fun v7 hv7 => ?_)
      rw [show v7 = ones (zless (J 78 (4 * b)) (hrs (J 77 0) two (hrs (J 77 0) one 0))) + bz (low < 0 ∧ 0 ≤ J 78 (4 * b + 1)) from (by rw [hv7]; exact hv)]
      refine gx_iload B dX6_judge_103 rfl ?_
      refine gx_iload B dX6_judge_105 rfl ?_
      refine z_iconst B dX6_judge_107 ?_
      refine z_ixor B dX6_judge_108 ?_
      refine z_iand B dX6_judge_109 ?_
      refine z_callSi [.int (zI (zand (hrs (J 77 0) two (hrs (J 77 0) one 0)) (zxor (J 78 (4 * b)) (-1))))] B ls_X6_90 (mX6_ones hG Jp (x := zand (hrs (J 77 0) two (hrs (J 77 0) one 0)) (zxor (J 78 (4 * b)) (-1)))) rfl rfl (Nat.le_of_ble_eq_true rfl) (by decide) (by decide) dX6_judge_110 (fun r2 J1 hJ1 => ?_)
      rw [show r2 = ones (zand (hrs (J 77 0) two (hrs (J 77 0) one 0)) (zxor (J 78 (4 * b)) (-1))) from hJ1.1, hJ1.2]
      refine z_istore (fun v9 => [(0, .ref (gx_ad G 76)), (1, .int (zI (b : Int))), (2, .int (zI low)), (3, .int (zI one)), (4, .int (zI two)), (5, .int (zI (hrs (J 77 0) two (hrs (J 77 0) one 0)))), (6, .int (zI (J 78 (4 * b)))), (7, .int (zI (ones (zless (J 78 (4 * b)) (hrs (J 77 0) two (hrs (J 77 0) one 0))) + bz (low < 0 ∧ 0 ≤ J 78 (4 * b + 1))))), (8, .int (zI v9))]) B dX6_judge_113 (by decide) rfl (fun _ => rfl) (fun v8 hv8 => ?_)
      rw [show v8 = ones (zless (hrs (J 77 0) two (hrs (J 77 0) one 0)) (J 78 (4 * b))) from (by rw [hv8])]
      refine z_sipush B dX6_judge_115 (by decide) ?_
      refine gx_iload B dX6_judge_118 rfl ?_
      refine z_imul B dX6_judge_120 ?_
      refine z_bipush B dX6_judge_121 (by decide) ?_
      refine gx_iload B dX6_judge_123 rfl ?_
      refine z_imul B dX6_judge_125 ?_
      refine z_iadd B dX6_judge_126 ?_
      refine gx_aload_n B dX6_judge_127 rfl rfl ?_
      refine z_geti B fl_X6_82 rfl (by decide) rfl dX6_judge_128 ?_
      refine z_iadd B dX6_judge_131 ?_
      refine z_istore (fun v9 => [(0, .ref (gx_ad G 76)), (1, .int (zI (b : Int))), (2, .int (zI low)), (3, .int (zI one)), (4, .int (zI two)), (5, .int (zI (hrs (J 77 0) two (hrs (J 77 0) one 0)))), (6, .int (zI (J 78 (4 * b)))), (7, .int (zI (ones (zless (J 78 (4 * b)) (hrs (J 77 0) two (hrs (J 77 0) one 0))) + bz (low < 0 ∧ 0 ≤ J 78 (4 * b + 1))))), (8, .int (zI (ones (zless (hrs (J 77 0) two (hrs (J 77 0) one 0)) (J 78 (4 * b)))))), (9, .int (zI v9))]) B dX6_judge_132 (by decide) rfl (fun _ => rfl) (fun va hva => ?_)
      rw [j10] at hva
      refine z_sipush B dX6_judge_134 (by decide) ?_
      refine gx_aload_n B dX6_judge_137 rfl rfl ?_
      refine gx_getr (t := 80) B fl_X6_19 rfl (by decide) rfl dX6_judge_138 ?_
      refine gx_iload_n B dX6_judge_141 rfl rfl ?_
      refine z_iald b B rfl (by decide) rfl hb (by decide) dX6_judge_142 ?_
      refine z_imul B dX6_judge_143 ?_
      refine z_bipush B dX6_judge_144 (by decide) ?_
      refine gx_aload_n B dX6_judge_146 rfl rfl ?_
      refine gx_getr (t := 81) B fl_X6_22 rfl (by decide) rfl dX6_judge_147 ?_
      refine gx_iload_n B dX6_judge_150 rfl rfl ?_
      refine z_iald b B rfl (by decide) rfl hb (by decide) dX6_judge_151 ?_
      refine z_imul B dX6_judge_152 ?_
      refine z_iadd B dX6_judge_153 ?_
      refine gx_aload_n B dX6_judge_154 rfl rfl ?_
      refine gx_getr (t := 82) B fl_X6_25 rfl (by decide) rfl dX6_judge_155 ?_
      refine gx_iload_n B dX6_judge_158 rfl rfl ?_
      refine z_iald b B rfl (by decide) rfl hb (by decide) dX6_judge_159 ?_
      refine z_iadd B dX6_judge_160 ?_
      refine z_istore (fun v9 => [(0, .ref (gx_ad G 76)), (1, .int (zI (b : Int))), (2, .int (zI low)), (3, .int (zI one)), (4, .int (zI two)), (5, .int (zI (hrs (J 77 0) two (hrs (J 77 0) one 0)))), (6, .int (zI (J 78 (4 * b)))), (7, .int (zI (ones (zless (J 78 (4 * b)) (hrs (J 77 0) two (hrs (J 77 0) one 0))) + bz (low < 0 ∧ 0 ≤ J 78 (4 * b + 1))))), (8, .int (zI (ones (zless (hrs (J 77 0) two (hrs (J 77 0) one 0)) (J 78 (4 * b)))))), (9, .int (zI va)), (10, .int (zI v9))]) B dX6_judge_161 (by decide) rfl (fun _ => rfl) (fun ha hha => ?_)
      refine gx_aload_n B dX6_judge_163 rfl rfl ?_
      refine gx_getr (t := 83) B fl_X6_28 rfl (by decide) rfl dX6_judge_164 ?_
      refine gx_iload_n B dX6_judge_167 rfl rfl ?_
      refine z_iald b B rfl (by decide) rfl hb (by decide) dX6_judge_168 ?_
      refine z_if_le (tgt := 180) B dX6_judge_169 ⟨by omega, by omega⟩ (by decide) (fun c169 => ?_) (fun c169 => ?_)
      · refine gx_iload B dX6_judge_180 rfl ?_
        refine gx_iload B dX6_judge_182 rfl ?_
        refine z_icmp_ge (tgt := 194) B dX6_judge_184 ⟨by omega, by omega⟩ ⟨by omega, by omega⟩ (by decide) (fun c184 => ?_) (fun c184 => ?_)
        · refine judge_tail hG B hb (c := pkA low one two) (ts := (prs two (prs one (prs low [])))) (xs := s.2) hn3 tr1 hcd ?_ ?_ ?_ ?_ Rt (fun J' hO => ?_)
          · exact (hsame (by omega)).1
          · exact (hsame (by omega)).2.1
          · intro k hk i hi; rw [fr1 _ _ (by omega) (by omega)]; exact (hsame (by omega)).2.2.1 k hk i hi
          · rw [fr1 _ _ (by omega) (by omega)]; exact (hsame (by omega)).2.2.2
          · exact hfe Jp J' fr1 hO (by omega)
        · refine gx_aload_n B dX6_judge_187 rfl rfl ?_
          refine gx_getr (t := 83) B fl_X6_28 rfl (by decide) rfl dX6_judge_188 ?_
          refine gx_iload_n B dX6_judge_191 rfl rfl ?_
          refine z_iconst B dX6_judge_192 ?_
          refine z_iast b B rfl (by decide) rfl hb (by decide) dX6_judge_193 (fun J2 hJ2 => ?_)
          refine judge_tail hG B hb (c := pkA low one two) (ts := (prs two (prs one (prs low [])))) (xs := []) hn3 ⟨by rw [hJ2, zup_ne (by omega)]; exact tr1.1, fun k hk => by rw [hJ2, zup_ne (by omega)]; exact tr1.2 k hk⟩ hcd okL_nil (fun k hk => by simp at hk) (fun k hk => by simp at hk) (by rw [hJ2, zup_self]; rfl) Rt (fun J' hO => ?_)
          exact hfl Jp J2 J' fr1 hJ2 hO (by omega)
      · refine gx_iload B dX6_judge_172 rfl ?_
        refine gx_iload B dX6_judge_174 rfl ?_
        refine z_icmp_le (tgt := 180) B dX6_judge_176 ⟨by omega, by omega⟩ ⟨by omega, by omega⟩ (by decide) (fun c176 => ?_) (fun c176 => ?_)
        · refine gx_iload B dX6_judge_180 rfl ?_
          refine gx_iload B dX6_judge_182 rfl ?_
          refine z_icmp_ge (tgt := 194) B dX6_judge_184 ⟨by omega, by omega⟩ ⟨by omega, by omega⟩ (by decide) (fun c184 => ?_) (fun c184 => ?_)
          · refine judge_tail hG B hb (c := pkA low one two) (ts := (prs two (prs one (prs low [])))) (xs := s.2) hn3 tr1 hcd ?_ ?_ ?_ ?_ Rt (fun J' hO => ?_)
            · exact (hsame (by omega)).1
            · exact (hsame (by omega)).2.1
            · intro k hk i hi; rw [fr1 _ _ (by omega) (by omega)]; exact (hsame (by omega)).2.2.1 k hk i hi
            · rw [fr1 _ _ (by omega) (by omega)]; exact (hsame (by omega)).2.2.2
            · exact hfe Jp J' fr1 hO (by omega)
          · refine gx_aload_n B dX6_judge_187 rfl rfl ?_
            refine gx_getr (t := 83) B fl_X6_28 rfl (by decide) rfl dX6_judge_188 ?_
            refine gx_iload_n B dX6_judge_191 rfl rfl ?_
            refine z_iconst B dX6_judge_192 ?_
            refine z_iast b B rfl (by decide) rfl hb (by decide) dX6_judge_193 (fun J2 hJ2 => ?_)
            refine judge_tail hG B hb (c := pkA low one two) (ts := (prs two (prs one (prs low [])))) (xs := []) hn3 ⟨by rw [hJ2, zup_ne (by omega)]; exact tr1.1, fun k hk => by rw [hJ2, zup_ne (by omega)]; exact tr1.2 k hk⟩ hcd okL_nil (fun k hk => by simp at hk) (fun k hk => by simp at hk) (by rw [hJ2, zup_self]; rfl) Rt (fun J' hO => ?_)
            exact hfl Jp J2 J' fr1 hJ2 hO (by omega)
        · refine z_ret B Rt dX6_judge_179 ?_
          exact hret Jp fr1 (by omega) (by omega)
    refine gx_aload_n B dX6_judge_58 rfl rfl ?_
    refine gx_getr (t := 78) B fl_X6_13 rfl (by decide) rfl dX6_judge_59 ?_
    refine z_iconst B dX6_judge_62 ?_
    refine gx_iload_n B dX6_judge_63 rfl rfl ?_
    refine z_imul B dX6_judge_64 ?_
    refine z_iald (4 * b) B rfl (by decide) (by omega) (show 4 * b < 32 by omega) (by decide) dX6_judge_65 ?_
    refine z_istore (fun v9 => [(0, .ref (gx_ad G 76)), (1, .int (zI (b : Int))), (2, .int (zI low)), (3, .int (zI one)), (4, .int (zI two)), (5, .int (zI (hrs (J 77 0) two (hrs (J 77 0) one 0)))), (6, .int (zI v9))]) B dX6_judge_66 (by decide) rfl (fun _ => rfl) (fun v6 hv6 => ?_)
    rw [show v6 = J 78 (4 * b) from (by rw [hv6]; exact fr1 _ _ (by omega) (by omega))]
    refine gx_iload B dX6_judge_68 rfl ?_
    refine gx_iload B dX6_judge_70 rfl ?_
    refine z_iconst B dX6_judge_72 ?_
    refine z_ixor B dX6_judge_73 ?_
    refine z_iand B dX6_judge_74 ?_
    refine z_callSi [.int (zI (zand (J 78 (4 * b)) (zxor (hrs (J 77 0) two (hrs (J 77 0) one 0)) (-1))))] B ls_X6_90 (mX6_ones hG Jp (x := zand (J 78 (4 * b)) (zxor (hrs (J 77 0) two (hrs (J 77 0) one 0)) (-1)))) rfl rfl (Nat.le_of_ble_eq_true rfl) (by decide) (by decide) dX6_judge_75 (fun r2 J1 hJ1 => ?_)
    rw [show r2 = ones (zand (J 78 (4 * b)) (zxor (hrs (J 77 0) two (hrs (J 77 0) one 0)) (-1))) from hJ1.1, hJ1.2]
    refine gx_iload_n B dX6_judge_78 rfl rfl ?_
    refine z_if_ge (tgt := 99) B dX6_judge_79 ⟨by omega, by omega⟩ (by decide) (fun c79 => ?_) (fun c79 => ?_)
    · refine z_iconst B dX6_judge_99 ?_
      refine z_iadd B dX6_judge_100 ?_
      exact h101 _ (by first | rw [bz_1.mpr ⟨by omega, by omega⟩] | rw [bz_0.mpr (by omega)])
    · refine gx_aload_n B dX6_judge_82 rfl rfl ?_
      refine gx_getr (t := 78) B fl_X6_13 rfl (by decide) rfl dX6_judge_83 ?_
      refine z_iconst B dX6_judge_86 ?_
      refine gx_iload_n B dX6_judge_87 rfl rfl ?_
      refine z_imul B dX6_judge_88 ?_
      refine z_iconst B dX6_judge_89 ?_
      refine z_iadd B dX6_judge_90 ?_
      refine z_iald (4 * b + 1) B rfl (by decide) (by omega) (show 4 * b + 1 < 32 by omega) (by decide) dX6_judge_91 ?_
      rw [show Jp 78 (4 * b + 1) = J 78 (4 * b + 1) from (fr1 _ _ (by omega) (by omega))]
      refine z_if_lt (tgt := 99) B dX6_judge_92 ⟨by omega, by omega⟩ (by decide) (fun c92 => ?_) (fun c92 => ?_)
      · refine z_iconst B dX6_judge_99 ?_
        refine z_iadd B dX6_judge_100 ?_
        exact h101 _ (by first | rw [bz_1.mpr ⟨by omega, by omega⟩] | rw [bz_0.mpr (by omega)])
      · refine z_iconst B dX6_judge_95 ?_
        refine gx_goto (tgt := 100) B dX6_judge_96 (by decide) ?_
        refine z_iadd B dX6_judge_100 ?_
        exact h101 _ (by first | rw [bz_1.mpr ⟨by omega, by omega⟩] | rw [bz_0.mpr (by omega)])
  refine gx_aload_n B dX6_judge_0 rfl rfl ?_
  refine z_iconst B dX6_judge_1 ?_
  refine z_puti B fw_X6_82 rfl (by decide) rfl dX6_judge_2 (fun J0 hJ0 => ?_)
  have tr0 : TR J0 [] := ⟨by rw [hJ0, zup_self]; rfl, fun k hk => by simp at hk⟩
  have fr0 : ∀ x k, x ≠ 85 → ¬ (x = 76 ∧ k = 10) → J0 x k = J x k := fun x k h1 h2 => by rw [hJ0, zup_ne h2]
  have so0 : srtd [] := List.Pairwise.nil
  have bd0 : ∀ k, k < ([] : List Int).length → 0 ≤ ([] : List Int).getD k 0 ∧ ([] : List Int).getD k 0 ≤ 71 := fun k hk => by simp at hk
  refine z_iconst B dX6_judge_5 ?_
  refine z_istore (fun v9 => [(0, .ref (gx_ad G 76)), (1, .int (zI (b : Int))), (2, .int (zI low)), (3, .int (zI one)), (4, .int (zI two)), (5, .int (zI v9))]) B dX6_judge_6 (by decide) rfl (fun _ => rfl) (fun v9 hv9 => ?_)
  rw [hv9]
  refine gx_iload_n B dX6_judge_8 rfl rfl ?_
  refine z_if_lt (tgt := 17) B dX6_judge_9 ⟨by omega, by omega⟩ (by decide) (fun c9 => ?_) (fun c9 => ?_)
  · have q0 := 0
    have ep_1 : prs low ([] : List Int) = ([] : List Int) := by unfold prs; rw [if_pos (by omega)]
    refine gx_iload_n B dX6_judge_17 rfl rfl ?_
    refine z_if_lt (tgt := 36) B dX6_judge_18 ⟨by omega, by omega⟩ (by decide) (fun c18 => ?_) (fun c18 => ?_)
    · have q0 := 0
      have ep_2 : prs one ([] : List Int) = ([] : List Int) := by unfold prs; rw [if_pos (by omega)]
      have eh_2 : hrs (J 77 0) one 0 = 0 := by unfold hrs; rw [if_pos (by omega)]
      have q1 := 0
      refine gx_iload B dX6_judge_36 rfl ?_
      refine z_if_lt (tgt := 58) B dX6_judge_38 ⟨by omega, by omega⟩ (by decide) (fun c38 => ?_) (fun c38 => ?_)
      · have q0 := 0
        have ep_3 : prs two ([] : List Int) = ([] : List Int) := by unfold prs; rw [if_pos (by omega)]
        have eh_3 : hrs (J 77 0) two 0 = 0 := by unfold hrs; rw [if_pos (by omega)]
        have q1 := 0
        have h9 := h58 J0
        rw [ep_1, ep_2, eh_2, ep_3, eh_3] at h9
        exact h9 tr0 fr0
      · have q0 := 0
        have ep_3 : prs two ([] : List Int) = (oi two ([] : List Int)) := by unfold prs; rw [if_neg (by omega)]
        have eh_3 : hrs (J 77 0) two 0 = zor 0 (snd (J 77 0) two) := by unfold hrs; rw [if_neg (by omega)]
        have q1 := 0
        refine gx_aload_n B dX6_judge_41 rfl rfl ?_
        refine gx_iload B dX6_judge_42 rfl ?_
        refine z_callVv [.int (zI two)] B lv_X6_86 (mX6_press hG J0 (c := two) ⟨by omega, by omega⟩ ([] : List Int) tr0 (by simp) so0 (fun k hk => by have := bd0 k hk; exact ⟨by omega, by omega⟩)) rfl (by decide) rfl rfl (Nat.le_of_ble_eq_true rfl) (by decide) (by decide) dX6_judge_44 (fun J1 hJ1 => ?_)
        have tr_J1 := hJ1.1
        have so_J1 : srtd (oi two ([] : List Int)) := oi_srtd so0
        have bd_J1 := tp_oi (c := two) bd0 ⟨by omega, by omega⟩
        have fr_J1 : ∀ x k, x ≠ 85 → ¬ (x = 76 ∧ k = 10) → J1 x k = J x k := fun x k h1 h2 => (hJ1.2 x k h1 h2).trans (fr0 x k h1 h2)
        refine gx_iload B dX6_judge_47 rfl ?_
        refine gx_aload_n B dX6_judge_49 rfl rfl ?_
        refine gx_iload B dX6_judge_50 rfl ?_
        refine z_callVi [.int (zI two)] B lv_X6_68 (mX6_soundOf hG J1 (b := two)) rfl (by decide) rfl rfl (Nat.le_of_ble_eq_true rfl) (by decide) (by decide) dX6_judge_52 (fun r4 J3 hJ3 => ?_)
        rw [show r4 = snd (J1 77 0) two from hJ3.1, hJ3.2]
        rw [show snd (J1 77 0) two = snd (J 77 0) two from (by rw [fr_J1 77 0 (by omega) (by omega)])]
        refine z_ior B dX6_judge_55 ?_
        refine z_istore (fun v9 => [(0, .ref (gx_ad G 76)), (1, .int (zI (b : Int))), (2, .int (zI low)), (3, .int (zI one)), (4, .int (zI two)), (5, .int (zI v9))]) B dX6_judge_56 (by decide) rfl (fun _ => rfl) (fun v9 hv9 => ?_)
        rw [hv9]
        have h9 := h58 J1
        rw [ep_1, ep_2, eh_2, ep_3, eh_3] at h9
        exact h9 tr_J1 fr_J1
    · have q0 := 0
      have ep_2 : prs one ([] : List Int) = (oi one ([] : List Int)) := by unfold prs; rw [if_neg (by omega)]
      have eh_2 : hrs (J 77 0) one 0 = zor 0 (snd (J 77 0) one) := by unfold hrs; rw [if_neg (by omega)]
      have q1 := 0
      refine gx_aload_n B dX6_judge_21 rfl rfl ?_
      refine gx_iload_n B dX6_judge_22 rfl rfl ?_
      refine z_callVv [.int (zI one)] B lv_X6_86 (mX6_press hG J0 (c := one) ⟨by omega, by omega⟩ ([] : List Int) tr0 (by simp) so0 (fun k hk => by have := bd0 k hk; exact ⟨by omega, by omega⟩)) rfl (by decide) rfl rfl (Nat.le_of_ble_eq_true rfl) (by decide) (by decide) dX6_judge_23 (fun J5 hJ5 => ?_)
      have tr_J5 := hJ5.1
      have so_J5 : srtd (oi one ([] : List Int)) := oi_srtd so0
      have bd_J5 := tp_oi (c := one) bd0 ⟨by omega, by omega⟩
      have fr_J5 : ∀ x k, x ≠ 85 → ¬ (x = 76 ∧ k = 10) → J5 x k = J x k := fun x k h1 h2 => (hJ5.2 x k h1 h2).trans (fr0 x k h1 h2)
      refine gx_iload B dX6_judge_26 rfl ?_
      refine gx_aload_n B dX6_judge_28 rfl rfl ?_
      refine gx_iload_n B dX6_judge_29 rfl rfl ?_
      refine z_callVi [.int (zI one)] B lv_X6_68 (mX6_soundOf hG J5 (b := one)) rfl (by decide) rfl rfl (Nat.le_of_ble_eq_true rfl) (by decide) (by decide) dX6_judge_30 (fun r8 J7 hJ7 => ?_)
      rw [show r8 = snd (J5 77 0) one from hJ7.1, hJ7.2]
      rw [show snd (J5 77 0) one = snd (J 77 0) one from (by rw [fr_J5 77 0 (by omega) (by omega)])]
      refine z_ior B dX6_judge_33 ?_
      refine z_istore (fun v9 => [(0, .ref (gx_ad G 76)), (1, .int (zI (b : Int))), (2, .int (zI low)), (3, .int (zI one)), (4, .int (zI two)), (5, .int (zI v9))]) B dX6_judge_34 (by decide) rfl (fun _ => rfl) (fun v9 hv9 => ?_)
      rw [hv9]
      refine gx_iload B dX6_judge_36 rfl ?_
      refine z_if_lt (tgt := 58) B dX6_judge_38 ⟨by omega, by omega⟩ (by decide) (fun c38 => ?_) (fun c38 => ?_)
      · have q0 := 0
        have ep_3 : prs two (oi one ([] : List Int)) = (oi one ([] : List Int)) := by unfold prs; rw [if_pos (by omega)]
        have eh_3 : hrs (J 77 0) two (zor 0 (snd (J 77 0) one)) = zor 0 (snd (J 77 0) one) := by unfold hrs; rw [if_pos (by omega)]
        have q1 := 0
        have h9 := h58 J5
        rw [ep_1, ep_2, eh_2, ep_3, eh_3] at h9
        exact h9 tr_J5 fr_J5
      · have q0 := 0
        have ep_3 : prs two (oi one ([] : List Int)) = (oi two (oi one ([] : List Int))) := by unfold prs; rw [if_neg (by omega)]
        have eh_3 : hrs (J 77 0) two (zor 0 (snd (J 77 0) one)) = zor (zor 0 (snd (J 77 0) one)) (snd (J 77 0) two) := by unfold hrs; rw [if_neg (by omega)]
        have q1 := 0
        refine gx_aload_n B dX6_judge_41 rfl rfl ?_
        refine gx_iload B dX6_judge_42 rfl ?_
        refine z_callVv [.int (zI two)] B lv_X6_86 (mX6_press hG J5 (c := two) ⟨by omega, by omega⟩ (oi one ([] : List Int)) tr_J5 (by simp only [oi_len, List.length_nil]; omega) so_J5 (fun k hk => by have := bd_J5 k hk; exact ⟨by omega, by omega⟩)) rfl (by decide) rfl rfl (Nat.le_of_ble_eq_true rfl) (by decide) (by decide) dX6_judge_44 (fun J9 hJ9 => ?_)
        have tr_J9 := hJ9.1
        have so_J9 : srtd (oi two (oi one ([] : List Int))) := oi_srtd so_J5
        have bd_J9 := tp_oi (c := two) bd_J5 ⟨by omega, by omega⟩
        have fr_J9 : ∀ x k, x ≠ 85 → ¬ (x = 76 ∧ k = 10) → J9 x k = J x k := fun x k h1 h2 => (hJ9.2 x k h1 h2).trans (fr_J5 x k h1 h2)
        refine gx_iload B dX6_judge_47 rfl ?_
        refine gx_aload_n B dX6_judge_49 rfl rfl ?_
        refine gx_iload B dX6_judge_50 rfl ?_
        refine z_callVi [.int (zI two)] B lv_X6_68 (mX6_soundOf hG J9 (b := two)) rfl (by decide) rfl rfl (Nat.le_of_ble_eq_true rfl) (by decide) (by decide) dX6_judge_52 (fun r12 J11 hJ11 => ?_)
        rw [show r12 = snd (J9 77 0) two from hJ11.1, hJ11.2]
        rw [show snd (J9 77 0) two = snd (J 77 0) two from (by rw [fr_J9 77 0 (by omega) (by omega)])]
        refine z_ior B dX6_judge_55 ?_
        refine z_istore (fun v9 => [(0, .ref (gx_ad G 76)), (1, .int (zI (b : Int))), (2, .int (zI low)), (3, .int (zI one)), (4, .int (zI two)), (5, .int (zI v9))]) B dX6_judge_56 (by decide) rfl (fun _ => rfl) (fun v9 hv9 => ?_)
        rw [hv9]
        have h9 := h58 J9
        rw [ep_1, ep_2, eh_2, ep_3, eh_3] at h9
        exact h9 tr_J9 fr_J9
  · have q0 := 0
    have ep_1 : prs low ([] : List Int) = (oi low ([] : List Int)) := by unfold prs; rw [if_neg (by omega)]
    refine gx_aload_n B dX6_judge_12 rfl rfl ?_
    refine gx_iload_n B dX6_judge_13 rfl rfl ?_
    refine z_callVv [.int (zI low)] B lv_X6_86 (mX6_press hG J0 (c := low) ⟨by omega, by omega⟩ ([] : List Int) tr0 (by simp) so0 (fun k hk => by have := bd0 k hk; exact ⟨by omega, by omega⟩)) rfl (by decide) rfl rfl (Nat.le_of_ble_eq_true rfl) (by decide) (by decide) dX6_judge_14 (fun J13 hJ13 => ?_)
    have tr_J13 := hJ13.1
    have so_J13 : srtd (oi low ([] : List Int)) := oi_srtd so0
    have bd_J13 := tp_oi (c := low) bd0 ⟨by omega, by omega⟩
    have fr_J13 : ∀ x k, x ≠ 85 → ¬ (x = 76 ∧ k = 10) → J13 x k = J x k := fun x k h1 h2 => (hJ13.2 x k h1 h2).trans (fr0 x k h1 h2)
    refine gx_iload_n B dX6_judge_17 rfl rfl ?_
    refine z_if_lt (tgt := 36) B dX6_judge_18 ⟨by omega, by omega⟩ (by decide) (fun c18 => ?_) (fun c18 => ?_)
    · have q0 := 0
      have ep_2 : prs one (oi low ([] : List Int)) = (oi low ([] : List Int)) := by unfold prs; rw [if_pos (by omega)]
      have eh_2 : hrs (J 77 0) one 0 = 0 := by unfold hrs; rw [if_pos (by omega)]
      have q1 := 0
      refine gx_iload B dX6_judge_36 rfl ?_
      refine z_if_lt (tgt := 58) B dX6_judge_38 ⟨by omega, by omega⟩ (by decide) (fun c38 => ?_) (fun c38 => ?_)
      · have q0 := 0
        have ep_3 : prs two (oi low ([] : List Int)) = (oi low ([] : List Int)) := by unfold prs; rw [if_pos (by omega)]
        have eh_3 : hrs (J 77 0) two 0 = 0 := by unfold hrs; rw [if_pos (by omega)]
        have q1 := 0
        have h9 := h58 J13
        rw [ep_1, ep_2, eh_2, ep_3, eh_3] at h9
        exact h9 tr_J13 fr_J13
      · have q0 := 0
        have ep_3 : prs two (oi low ([] : List Int)) = (oi two (oi low ([] : List Int))) := by unfold prs; rw [if_neg (by omega)]
        have eh_3 : hrs (J 77 0) two 0 = zor 0 (snd (J 77 0) two) := by unfold hrs; rw [if_neg (by omega)]
        have q1 := 0
        refine gx_aload_n B dX6_judge_41 rfl rfl ?_
        refine gx_iload B dX6_judge_42 rfl ?_
        refine z_callVv [.int (zI two)] B lv_X6_86 (mX6_press hG J13 (c := two) ⟨by omega, by omega⟩ (oi low ([] : List Int)) tr_J13 (by simp only [oi_len, List.length_nil]; omega) so_J13 (fun k hk => by have := bd_J13 k hk; exact ⟨by omega, by omega⟩)) rfl (by decide) rfl rfl (Nat.le_of_ble_eq_true rfl) (by decide) (by decide) dX6_judge_44 (fun J15 hJ15 => ?_)
        have tr_J15 := hJ15.1
        have so_J15 : srtd (oi two (oi low ([] : List Int))) := oi_srtd so_J13
        have bd_J15 := tp_oi (c := two) bd_J13 ⟨by omega, by omega⟩
        have fr_J15 : ∀ x k, x ≠ 85 → ¬ (x = 76 ∧ k = 10) → J15 x k = J x k := fun x k h1 h2 => (hJ15.2 x k h1 h2).trans (fr_J13 x k h1 h2)
        refine gx_iload B dX6_judge_47 rfl ?_
        refine gx_aload_n B dX6_judge_49 rfl rfl ?_
        refine gx_iload B dX6_judge_50 rfl ?_
        refine z_callVi [.int (zI two)] B lv_X6_68 (mX6_soundOf hG J15 (b := two)) rfl (by decide) rfl rfl (Nat.le_of_ble_eq_true rfl) (by decide) (by decide) dX6_judge_52 (fun r18 J17 hJ17 => ?_)
        rw [show r18 = snd (J15 77 0) two from hJ17.1, hJ17.2]
        rw [show snd (J15 77 0) two = snd (J 77 0) two from (by rw [fr_J15 77 0 (by omega) (by omega)])]
        refine z_ior B dX6_judge_55 ?_
        refine z_istore (fun v9 => [(0, .ref (gx_ad G 76)), (1, .int (zI (b : Int))), (2, .int (zI low)), (3, .int (zI one)), (4, .int (zI two)), (5, .int (zI v9))]) B dX6_judge_56 (by decide) rfl (fun _ => rfl) (fun v9 hv9 => ?_)
        rw [hv9]
        have h9 := h58 J15
        rw [ep_1, ep_2, eh_2, ep_3, eh_3] at h9
        exact h9 tr_J15 fr_J15
    · have q0 := 0
      have ep_2 : prs one (oi low ([] : List Int)) = (oi one (oi low ([] : List Int))) := by unfold prs; rw [if_neg (by omega)]
      have eh_2 : hrs (J 77 0) one 0 = zor 0 (snd (J 77 0) one) := by unfold hrs; rw [if_neg (by omega)]
      have q1 := 0
      refine gx_aload_n B dX6_judge_21 rfl rfl ?_
      refine gx_iload_n B dX6_judge_22 rfl rfl ?_
      refine z_callVv [.int (zI one)] B lv_X6_86 (mX6_press hG J13 (c := one) ⟨by omega, by omega⟩ (oi low ([] : List Int)) tr_J13 (by simp only [oi_len, List.length_nil]; omega) so_J13 (fun k hk => by have := bd_J13 k hk; exact ⟨by omega, by omega⟩)) rfl (by decide) rfl rfl (Nat.le_of_ble_eq_true rfl) (by decide) (by decide) dX6_judge_23 (fun J19 hJ19 => ?_)
      have tr_J19 := hJ19.1
      have so_J19 : srtd (oi one (oi low ([] : List Int))) := oi_srtd so_J13
      have bd_J19 := tp_oi (c := one) bd_J13 ⟨by omega, by omega⟩
      have fr_J19 : ∀ x k, x ≠ 85 → ¬ (x = 76 ∧ k = 10) → J19 x k = J x k := fun x k h1 h2 => (hJ19.2 x k h1 h2).trans (fr_J13 x k h1 h2)
      refine gx_iload B dX6_judge_26 rfl ?_
      refine gx_aload_n B dX6_judge_28 rfl rfl ?_
      refine gx_iload_n B dX6_judge_29 rfl rfl ?_
      refine z_callVi [.int (zI one)] B lv_X6_68 (mX6_soundOf hG J19 (b := one)) rfl (by decide) rfl rfl (Nat.le_of_ble_eq_true rfl) (by decide) (by decide) dX6_judge_30 (fun r22 J21 hJ21 => ?_)
      rw [show r22 = snd (J19 77 0) one from hJ21.1, hJ21.2]
      rw [show snd (J19 77 0) one = snd (J 77 0) one from (by rw [fr_J19 77 0 (by omega) (by omega)])]
      refine z_ior B dX6_judge_33 ?_
      refine z_istore (fun v9 => [(0, .ref (gx_ad G 76)), (1, .int (zI (b : Int))), (2, .int (zI low)), (3, .int (zI one)), (4, .int (zI two)), (5, .int (zI v9))]) B dX6_judge_34 (by decide) rfl (fun _ => rfl) (fun v9 hv9 => ?_)
      rw [hv9]
      refine gx_iload B dX6_judge_36 rfl ?_
      refine z_if_lt (tgt := 58) B dX6_judge_38 ⟨by omega, by omega⟩ (by decide) (fun c38 => ?_) (fun c38 => ?_)
      · have q0 := 0
        have ep_3 : prs two (oi one (oi low ([] : List Int))) = (oi one (oi low ([] : List Int))) := by unfold prs; rw [if_pos (by omega)]
        have eh_3 : hrs (J 77 0) two (zor 0 (snd (J 77 0) one)) = zor 0 (snd (J 77 0) one) := by unfold hrs; rw [if_pos (by omega)]
        have q1 := 0
        have h9 := h58 J19
        rw [ep_1, ep_2, eh_2, ep_3, eh_3] at h9
        exact h9 tr_J19 fr_J19
      · have q0 := 0
        have ep_3 : prs two (oi one (oi low ([] : List Int))) = (oi two (oi one (oi low ([] : List Int)))) := by unfold prs; rw [if_neg (by omega)]
        have eh_3 : hrs (J 77 0) two (zor 0 (snd (J 77 0) one)) = zor (zor 0 (snd (J 77 0) one)) (snd (J 77 0) two) := by unfold hrs; rw [if_neg (by omega)]
        have q1 := 0
        refine gx_aload_n B dX6_judge_41 rfl rfl ?_
        refine gx_iload B dX6_judge_42 rfl ?_
        refine z_callVv [.int (zI two)] B lv_X6_86 (mX6_press hG J19 (c := two) ⟨by omega, by omega⟩ (oi one (oi low ([] : List Int))) tr_J19 (by simp only [oi_len, List.length_nil]; omega) so_J19 (fun k hk => by have := bd_J19 k hk; exact ⟨by omega, by omega⟩)) rfl (by decide) rfl rfl (Nat.le_of_ble_eq_true rfl) (by decide) (by decide) dX6_judge_44 (fun J23 hJ23 => ?_)
        have tr_J23 := hJ23.1
        have so_J23 : srtd (oi two (oi one (oi low ([] : List Int)))) := oi_srtd so_J19
        have bd_J23 := tp_oi (c := two) bd_J19 ⟨by omega, by omega⟩
        have fr_J23 : ∀ x k, x ≠ 85 → ¬ (x = 76 ∧ k = 10) → J23 x k = J x k := fun x k h1 h2 => (hJ23.2 x k h1 h2).trans (fr_J19 x k h1 h2)
        refine gx_iload B dX6_judge_47 rfl ?_
        refine gx_aload_n B dX6_judge_49 rfl rfl ?_
        refine gx_iload B dX6_judge_50 rfl ?_
        refine z_callVi [.int (zI two)] B lv_X6_68 (mX6_soundOf hG J23 (b := two)) rfl (by decide) rfl rfl (Nat.le_of_ble_eq_true rfl) (by decide) (by decide) dX6_judge_52 (fun r26 J25 hJ25 => ?_)
        rw [show r26 = snd (J23 77 0) two from hJ25.1, hJ25.2]
        rw [show snd (J23 77 0) two = snd (J 77 0) two from (by rw [fr_J23 77 0 (by omega) (by omega)])]
        refine z_ior B dX6_judge_55 ?_
        refine z_istore (fun v9 => [(0, .ref (gx_ad G 76)), (1, .int (zI (b : Int))), (2, .int (zI low)), (3, .int (zI one)), (4, .int (zI two)), (5, .int (zI v9))]) B dX6_judge_56 (by decide) rfl (fun _ => rfl) (fun v9 hv9 => ?_)
        rw [hv9]
        have h9 := h58 J23
        rw [ep_1, ep_2, eh_2, ep_3, eh_3] at h9
        exact h9 tr_J23 fr_J23

