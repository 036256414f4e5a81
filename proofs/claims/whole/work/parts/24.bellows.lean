
def gz (n t b : Int) : Int := zand (zshr t (n - 1 - b)) 1
theorem gz01 (n t b : Int) : gz n t b = 0 ∨ gz n t b = 1 := zand1_01 _
abbrev trn (n t : Int) (b : Nat) : Prop := 0 < b ∧ ¬ gz n t b = gz n t ((b : Int) - 1)
def mvZ (n t : Int) (u : Nat → Int) (b : Nat) : Int := if gz n t b = 0 then u b else -(u b)
def airN (n t : Int) (u : Nat → Int) (st : Int) : Nat → Int
  | 0 => st
  | b + 1 => airN n t u st b + mvZ n t u b
def pkN (n t : Int) (u : Nat → Int) (st : Int) : Nat → Int
  | 0 => st
  | b + 1 => max (pkN n t u st b) (airN n t u st (b + 1))
def tied (n t : Int) (mk : Nat → Int) (N : Nat) : Prop := ∃ b, b < N ∧ mk b = 3 ∧ trn n t b
def prc (n t : Int) (mk : Nat → Int) (b : Nat) : Int := if trn n t b then z_turnN (mk b).toNat else 0
def tct (n t : Int) (b : Nat) : Int := if trn n t b then 1 else 0
theorem turn_le (j : Nat) : 0 ≤ z_turnN j ∧ z_turnN j ≤ 3 := by
  match j with
  | 0 => decide
  | 1 => decide
  | 2 => decide
  | n + 3 => exact ⟨by show (0 : Int) ≤ (0 : Int32).toInt; decide, by show (0 : Int32).toInt ≤ 3; decide⟩
theorem prc_le (n t : Int) (mk : Nat → Int) (b : Nat) : 0 ≤ prc n t mk b ∧ prc n t mk b ≤ 3 := by
  have := turn_le (mk b).toNat
  unfold prc
  split <;> omega
theorem price_le (n t : Int) (mk : Nat → Int) (N : Nat) : 0 ≤ sumN (prc n t mk) N ∧ sumN (prc n t mk) N ≤ 3 * N := sumN_le (by omega) (fun k _ => prc_le n t mk k)
theorem mv_le {n t : Int} {u : Nat → Int} {b : Nat} (h : 0 ≤ u b ∧ u b ≤ 300) : -300 ≤ mvZ n t u b ∧ mvZ n t u b ≤ 300 := by unfold mvZ; split <;> omega
theorem air_le {n t : Int} {u : Nat → Int} {st : Int} {N : Nat} (hu : ∀ b, b < N → 0 ≤ u b ∧ u b ≤ 300) (h0 : 0 ≤ st) (h1 : st ≤ 400) : ∀ b : Nat, b ≤ N → -(300 * (b : Int)) ≤ airN n t u st b ∧ airN n t u st b ≤ 400 + 300 * b
  | 0, _ => by simp only [airN]; omega
  | b + 1, h => by
    have h2 := air_le (n := n) (t := t) hu h0 h1 b (by omega)
    have h3 := mv_le (n := n) (t := t) (hu b (by omega))
    unfold airN
    omega
theorem pk_le2 {n t : Int} {u : Nat → Int} {st : Int} {N : Nat} (hu : ∀ b, b < N → 0 ≤ u b ∧ u b ≤ 300) (h0 : 0 ≤ st) (h1 : st ≤ 400) : ∀ b : Nat, b ≤ N → st ≤ pkN n t u st b ∧ pkN n t u st b ≤ 400 + 300 * b
  | 0, _ => by simp only [pkN]; omega
  | b + 1, h => by
    have h2 := pk_le2 (n := n) (t := t) hu h0 h1 b (by omega)
    have h3 := air_le (n := n) (t := t) hu h0 h1 (b + 1) h
    unfold pkN
    omega
def BPre (J : zJ) (N : Nat) : Prop := J 11 2 = (N : Int) ∧ N ≤ 8 ∧ ∀ b, b < N → (0 ≤ J 12 b ∧ J 12 b ≤ 300) ∧ (0 ≤ J 13 b ∧ J 13 b ≤ 3)

theorem mX0_goesOut {l : Launch} {G : gx_G} (hG : gx_OK G 76) (J : zJ) {t b : Int} : zMi l G yX0_goesOut cX0_goesOut 3 .boolean rmX0_goesOut [.ref (gx_ad G 11), .int (zI t), .int (zI b)] J (fun r J' => r = bz (gz (J 11 2) t b = 0) ∧ J' = J) := by
  refine gx_mi hG (by decide) (Nat.le_of_ble_eq_true rfl) (fun X hla B Rt => ?_)
  subst hla
  have B : gx_B G X RX0 cX0_goesOut 3 rmX0_goesOut 76 := B
  show gx_WG G X 3 (zh J) 0 [(0, .ref (gx_ad G 11)), (1, .int (zI t)), (2, .int (zI b))] []
  refine gx_iload_n B dX0_goesOut_0 rfl rfl ?_
  refine gx_aload_n B dX0_goesOut_1 rfl rfl ?_
  refine z_geti B fl_X0_18 rfl (by decide) rfl dX0_goesOut_2 ?_
  refine z_iconst B dX0_goesOut_5 ?_
  refine z_isub B dX0_goesOut_6 ?_
  refine gx_iload_n B dX0_goesOut_7 rfl rfl ?_
  refine z_isub B dX0_goesOut_8 ?_
  refine z_ishr B dX0_goesOut_9 ?_
  refine z_iconst B dX0_goesOut_10 ?_
  refine z_iand B dX0_goesOut_11 ?_
  refine z_if_ne (tgt := 19) B dX0_goesOut_12 (zandB _ _) (by decide) (fun c12 => ?_) (fun c12 => ?_)
  · refine z_iconst B dX0_goesOut_19 ?_
    refine z_iretz B Rt dX0_goesOut_20 (by decide) ?_
    exact ⟨by first | exact (bz_1.mpr c12).symm | exact (bz_0.mpr c12).symm, rfl⟩
  · refine z_iconst B dX0_goesOut_15 ?_
    refine gx_goto (tgt := 20) B dX0_goesOut_16 (by decide) ?_
    refine z_iretz B Rt dX0_goesOut_20 (by decide) ?_
    exact ⟨by first | exact (bz_1.mpr c12).symm | exact (bz_0.mpr c12).symm, rfl⟩

theorem bz_ne {p q : Prop} [Decidable p] [Decidable q] : bz p = bz q ↔ (p ↔ q) := by unfold bz; split <;> split <;> simp_all
theorem mX0_turnsAt {l : Launch} {G : gx_G} (hG : gx_OK G 76) (J : zJ) {t : Int} {b : Nat} (hb : b < 100) : zMi l G yX0_turnsAt cX0_turnsAt 3 .boolean rmX0_turnsAt [.ref (gx_ad G 11), .int (zI t), .int (zI (b : Int))] J (fun r J' => r = bz (trn (J 11 2) t b) ∧ J' = J) := by
  refine gx_mi hG (by decide) (Nat.le_of_ble_eq_true rfl) (fun X hla B Rt => ?_)
  subst hla
  have B : gx_B G X RX0 cX0_turnsAt 3 rmX0_turnsAt 76 := B
  show gx_WG G X 3 (zh J) 0 [(0, .ref (gx_ad G 11)), (1, .int (zI t)), (2, .int (zI (b : Int)))] []
  refine gx_iload_n B dX0_turnsAt_0 rfl rfl ?_
  refine z_if_le (tgt := 25) B dX0_turnsAt_1 ⟨by omega, by omega⟩ (by decide) (fun c1 => ?_) (fun c1 => ?_)
  · refine z_iconst B dX0_turnsAt_25 ?_
    refine z_iretz B Rt dX0_turnsAt_26 (by decide) ?_
    have g1 := gz01 (J 11 2) t b
    have g2 := gz01 (J 11 2) t ((b : Int) - 1)
    refine ⟨?_, rfl⟩
    first
     | exact (bz_1.mpr ⟨by omega, by omega⟩).symm
     | exact (bz_0.mpr (by omega)).symm
  · refine gx_aload_n B dX0_turnsAt_4 rfl rfl ?_
    refine gx_iload_n B dX0_turnsAt_5 rfl rfl ?_
    refine gx_iload_n B dX0_turnsAt_6 rfl rfl ?_
    refine z_callVi [.int (zI t), .int (zI (b : Int))] B lv_X0_72 (mX0_goesOut hG J (t := t) (b := (b : Int))) rfl (by decide) rfl rfl (Nat.le_of_ble_eq_true rfl) (by decide) (by decide) dX0_turnsAt_7 (fun r2 J1 hJ1 => ?_)
    rw [show r2 = bz (gz (J 11 2) t (b : Int) = 0) from hJ1.1, hJ1.2]
    refine gx_aload_n B dX0_turnsAt_10 rfl rfl ?_
    refine gx_iload_n B dX0_turnsAt_11 rfl rfl ?_
    refine gx_iload_n B dX0_turnsAt_12 rfl rfl ?_
    refine z_iconst B dX0_turnsAt_13 ?_
    refine z_isub B dX0_turnsAt_14 ?_
    refine z_callVi [.int (zI t), .int (zI ((b : Int) - 1))] B lv_X0_72 (mX0_goesOut hG J (t := t) (b := (b : Int) - 1)) rfl (by decide) rfl rfl (Nat.le_of_ble_eq_true rfl) (by decide) (by decide) dX0_turnsAt_15 (fun r4 J3 hJ3 => ?_)
    rw [show r4 = bz (gz (J 11 2) t ((b : Int) - 1) = 0) from hJ3.1, hJ3.2]
    refine z_icmp_eq (tgt := 25) B dX0_turnsAt_18 (bzB _) (bzB _) (by decide) (fun c18 => ?_) (fun c18 => ?_)
    · rw [bz_ne] at c18
      refine z_iconst B dX0_turnsAt_25 ?_
      refine z_iretz B Rt dX0_turnsAt_26 (by decide) ?_
      have g1 := gz01 (J 11 2) t b
      have g2 := gz01 (J 11 2) t ((b : Int) - 1)
      refine ⟨?_, rfl⟩
      first
       | exact (bz_1.mpr ⟨by omega, by omega⟩).symm
       | exact (bz_0.mpr (by omega)).symm
    · rw [bz_ne] at c18
      refine z_iconst B dX0_turnsAt_21 ?_
      refine gx_goto (tgt := 26) B dX0_turnsAt_22 (by decide) ?_
      refine z_iretz B Rt dX0_turnsAt_26 (by decide) ?_
      have g1 := gz01 (J 11 2) t b
      have g2 := gz01 (J 11 2) t ((b : Int) - 1)
      refine ⟨?_, rfl⟩
      first
       | exact (bz_1.mpr ⟨by omega, by omega⟩).symm
       | exact (bz_0.mpr (by omega)).symm

theorem mX0_airMoved {l : Launch} {G : gx_G} (hG : gx_OK G 76) (J : zJ) {t : Int} {b : Nat} (hb : b < 8) : zMi l G yX0_airMoved cX0_airMoved 3 .int rmX0_airMoved [.ref (gx_ad G 11), .int (zI t), .int (zI (b : Int))] J (fun r J' => r = mvZ (J 11 2) t (J 12) b ∧ J' = J) := by
  refine gx_mi hG (by decide) (Nat.le_of_ble_eq_true rfl) (fun X hla B Rt => ?_)
  subst hla
  have B : gx_B G X RX0 cX0_airMoved 3 rmX0_airMoved 76 := B
  show gx_WG G X 3 (zh J) 0 [(0, .ref (gx_ad G 11)), (1, .int (zI t)), (2, .int (zI (b : Int)))] []
  refine gx_aload_n B dX0_airMoved_0 rfl rfl ?_
  refine gx_iload_n B dX0_airMoved_1 rfl rfl ?_
  refine gx_iload_n B dX0_airMoved_2 rfl rfl ?_
  refine z_callVi [.int (zI t), .int (zI (b : Int))] B lv_X0_72 (mX0_goesOut hG J (t := t) (b := (b : Int))) rfl (by decide) rfl rfl (Nat.le_of_ble_eq_true rfl) (by decide) (by decide) dX0_airMoved_3 (fun r2 J1 hJ1 => ?_)
  rw [show r2 = bz (gz (J 11 2) t (b : Int) = 0) from hJ1.1, hJ1.2]
  refine z_if_eq (tgt := 18) B dX0_airMoved_6 (bzB _) (by decide) (fun c6 => ?_) (fun c6 => ?_)
  · rw [bz_0] at c6
    refine gx_aload_n B dX0_airMoved_18 rfl rfl ?_
    refine gx_getr (t := 12) B fl_X0_9 rfl (by decide) rfl dX0_airMoved_19 ?_
    refine gx_iload_n B dX0_airMoved_22 rfl rfl ?_
    refine z_iald b B rfl (by decide) rfl hb (by decide) dX0_airMoved_23 ?_
    refine z_ineg B dX0_airMoved_24 ?_
    refine z_ireti B Rt dX0_airMoved_25 ?_
    refine ⟨?_, rfl⟩
    unfold mvZ
    first | rw [if_pos c6] | rw [if_neg c6]
  · rw [bz_n0] at c6
    refine gx_aload_n B dX0_airMoved_9 rfl rfl ?_
    refine gx_getr (t := 12) B fl_X0_9 rfl (by decide) rfl dX0_airMoved_10 ?_
    refine gx_iload_n B dX0_airMoved_13 rfl rfl ?_
    refine z_iald b B rfl (by decide) rfl hb (by decide) dX0_airMoved_14 ?_
    refine gx_goto (tgt := 25) B dX0_airMoved_15 (by decide) ?_
    refine z_ireti B Rt dX0_airMoved_25 ?_
    refine ⟨?_, rfl⟩
    unfold mvZ
    first | rw [if_pos c6] | rw [if_neg c6]

theorem lpTwt {G : gx_G} {X : gx_X} (hG : gx_OK G 76) (B : gx_B G X RX0 cX0_turnsWhenTied 3 rmX0_turnsWhenTied 76) {J : zJ} {t : Int} {N : Nat} (hB : BPre J N) (Rt : gx_Ri G X .boolean (zpi (fun r J' => (r = 1 ∧ tied (J 11 2) t (J 13) N ∨ r = 0 ∧ ¬ tied (J 11 2) t (J 13) N) ∧ J' = J))) : ∀ i : Nat, i ≤ (max N 1) → 1 ≤ i → (∀ b, b < i → ¬ (J 13 b = 3 ∧ trn (J 11 2) t b)) → gx_WG G X 3 (zh J) 2 [(0, .ref (gx_ad G 11)), (1, .int (zI t)), (2, .int (zI (i : Int)))] [] := by
  refine up_ind (fun i hi ih => ?_)
  intro hi1 hno
  have h2 := hB.1
  have h8 := hB.2.1
  refine gx_iload_n B dX0_turnsWhenTied_2 rfl rfl ?_
  refine gx_aload_n B dX0_turnsWhenTied_3 rfl rfl ?_
  refine z_geti B fl_X0_18 rfl (by decide) rfl dX0_turnsWhenTied_4 ?_
  refine z_icmp_ge (tgt := 37) B dX0_turnsWhenTied_7 ⟨by omega, by omega⟩ ⟨by omega, by omega⟩ (by decide) (fun c7 => ?_) (fun c7 => ?_)
  · refine z_iconst B dX0_turnsWhenTied_37 ?_
    refine z_iretz B Rt dX0_turnsWhenTied_38 (by decide) ?_
    refine ⟨Or.inr ⟨rfl, fun q => ?_⟩, rfl⟩
    obtain ⟨b, h1, h3⟩ := q
    exact hno b (by omega) h3
  · have hm := (hB.2.2 i (by omega)).2
    refine gx_aload_n B dX0_turnsWhenTied_10 rfl rfl ?_
    refine gx_getr (t := 13) B fl_X0_15 rfl (by decide) rfl dX0_turnsWhenTied_11 ?_
    refine gx_iload_n B dX0_turnsWhenTied_14 rfl rfl ?_
    refine z_iald i B rfl (by decide) rfl (show i < 8 by omega) (by decide) dX0_turnsWhenTied_15 ?_
    refine z_iconst B dX0_turnsWhenTied_16 ?_
    refine z_icmp_ne (tgt := 31) B dX0_turnsWhenTied_17 ⟨by omega, by omega⟩ ⟨by omega, by omega⟩ (by decide) (fun c17 => ?_) (fun c17 => ?_)
    · refine z_iinc (fun v9 => [(0, .ref (gx_ad G 11)), (1, .int (zI t)), (2, .int (zI v9))]) B dX0_turnsWhenTied_31 rfl (by decide) rfl (fun _ => rfl) (fun v2 hv2 => ?_)
      rw [show v2 = ((i + 1 : Nat) : Int) from (by omega)]
      refine gx_goto (tgt := 2) B dX0_turnsWhenTied_34 (by decide) ?_
      refine ih (by omega) (by omega) (fun b hb => ?_)
      by_cases e : b = i
      · subst e; intro q; first | exact c26 q.2 | exact c17 q.1
      · exact hno b (by omega)
    · refine gx_aload_n B dX0_turnsWhenTied_20 rfl rfl ?_
      refine gx_iload_n B dX0_turnsWhenTied_21 rfl rfl ?_
      refine gx_iload_n B dX0_turnsWhenTied_22 rfl rfl ?_
      refine z_callVi [.int (zI t), .int (zI (i : Int))] B lv_X0_76 (mX0_turnsAt hG J (t := t) (b := i) (by omega)) rfl (by decide) rfl rfl (Nat.le_of_ble_eq_true rfl) (by decide) (by decide) dX0_turnsWhenTied_23 (fun r2 J1 hJ1 => ?_)
      rw [show r2 = bz (trn (J 11 2) t i) from hJ1.1, hJ1.2]
      refine z_if_eq (tgt := 31) B dX0_turnsWhenTied_26 (bzB _) (by decide) (fun c26 => ?_) (fun c26 => ?_)
      · rw [bz_0] at c26
        refine z_iinc (fun v9 => [(0, .ref (gx_ad G 11)), (1, .int (zI t)), (2, .int (zI v9))]) B dX0_turnsWhenTied_31 rfl (by decide) rfl (fun _ => rfl) (fun v2 hv2 => ?_)
        rw [show v2 = ((i + 1 : Nat) : Int) from (by omega)]
        refine gx_goto (tgt := 2) B dX0_turnsWhenTied_34 (by decide) ?_
        refine ih (by omega) (by omega) (fun b hb => ?_)
        by_cases e : b = i
        · subst e; intro q; first | exact c26 q.2 | exact c17 q.1
        · exact hno b (by omega)
      · rw [bz_n0] at c26
        refine z_iconst B dX0_turnsWhenTied_29 ?_
        refine z_iretz B Rt dX0_turnsWhenTied_30 (by decide) ?_
        exact ⟨Or.inl ⟨rfl, i, by omega, c17, c26⟩, rfl⟩

theorem mX0_turnsWhenTied {l : Launch} {G : gx_G} (hG : gx_OK G 76) (J : zJ) {t : Int} {N : Nat} (hB : BPre J N) : zMi l G yX0_turnsWhenTied cX0_turnsWhenTied 3 .boolean rmX0_turnsWhenTied [.ref (gx_ad G 11), .int (zI t)] J (fun r J' => (r = 1 ∧ tied (J 11 2) t (J 13) N ∨ r = 0 ∧ ¬ tied (J 11 2) t (J 13) N) ∧ J' = J) := by
  refine gx_mi hG (by decide) (Nat.le_of_ble_eq_true rfl) (fun X hla B Rt => ?_)
  subst hla
  have B : gx_B G X RX0 cX0_turnsWhenTied 3 rmX0_turnsWhenTied 76 := B
  show gx_WG G X 3 (zh J) 0 [(0, .ref (gx_ad G 11)), (1, .int (zI t))] []
  refine z_iconst B dX0_turnsWhenTied_0 ?_
  refine z_istore_n (fun v9 => [(0, .ref (gx_ad G 11)), (1, .int (zI t)), (2, .int (zI v9))]) B dX0_turnsWhenTied_1 rfl (by decide) rfl (fun _ => rfl) (fun v2 hv2 => ?_)
  rw [show v2 = ((1 : Nat) : Int) from (by omega)]
  exact lpTwt hG B hB Rt 1 (by omega) (by omega) (fun b hb q => by have := q.2.1; omega)

theorem lpPeak {G : gx_G} {X : gx_X} (hG : gx_OK G 76) (B : gx_B G X RX0 cX0_peakOf 6 rmX0_peakOf 76) {J : zJ} {t st : Int} {N : Nat} (hB : BPre J N) (h0 : 0 ≤ st) (h1 : st ≤ 400) (Rt : gx_Ri G X .int (zpi (fun r J' => (r = -1 ∧ (∃ b, b < N ∧ airN (J 11 2) t (J 12) st (b + 1) < 0) ∨ r = pkN (J 11 2) t (J 12) st N ∧ ∀ b, b < N → 0 ≤ airN (J 11 2) t (J 12) st (b + 1)) ∧ J' = J))) : ∀ i : Nat, i ≤ N → (∀ b, b < i → 0 ≤ airN (J 11 2) t (J 12) st (b + 1)) → gx_WG G X 6 (zh J) 8 [(0, .ref (gx_ad G 11)), (1, .int (zI t)), (2, .int (zI st)), (3, .int (zI (airN (J 11 2) t (J 12) st i))), (4, .int (zI (pkN (J 11 2) t (J 12) st i))), (5, .int (zI (i : Int)))] [] := by
  refine up_ind (fun i hi ih => ?_)
  intro hno
  have h2 := hB.1
  have h8 := hB.2.1
  have hai := air_le (n := J 11 2) (t := t) (fun b hb => (hB.2.2 b hb).1) h0 h1 i hi
  have hpi := pk_le2 (n := J 11 2) (t := t) (fun b hb => (hB.2.2 b hb).1) h0 h1 i hi
  refine gx_iload B dX0_peakOf_8 rfl ?_
  refine gx_aload_n B dX0_peakOf_10 rfl rfl ?_
  refine z_geti B fl_X0_18 rfl (by decide) rfl dX0_peakOf_11 ?_
  refine z_icmp_ge (tgt := 47) B dX0_peakOf_14 ⟨by omega, by omega⟩ ⟨by omega, by omega⟩ (by decide) (fun c14 => ?_) (fun c14 => ?_)
  · refine gx_iload B dX0_peakOf_47 rfl ?_
    refine z_ireti B Rt dX0_peakOf_49 ?_
    obtain rfl : i = N := by omega
    exact ⟨Or.inr ⟨rfl, hno⟩, rfl⟩
  · have hai1 := air_le (n := J 11 2) (t := t) (fun b hb => (hB.2.2 b hb).1) h0 h1 (i + 1) (by omega)
    refine gx_iload_n B dX0_peakOf_17 rfl rfl ?_
    refine gx_aload_n B dX0_peakOf_18 rfl rfl ?_
    refine gx_iload_n B dX0_peakOf_19 rfl rfl ?_
    refine gx_iload B dX0_peakOf_20 rfl ?_
    refine z_callVi [.int (zI t), .int (zI (i : Int))] B lv_X0_79 (mX0_airMoved hG J (t := t) (b := i) (by omega)) rfl (by decide) rfl rfl (Nat.le_of_ble_eq_true rfl) (by decide) (by decide) dX0_peakOf_22 (fun r2 J1 hJ1 => ?_)
    rw [show r2 = mvZ (J 11 2) t (J 12) i from hJ1.1, hJ1.2]
    refine z_iadd B dX0_peakOf_25 ?_
    refine z_istore_n (fun v9 => [(0, .ref (gx_ad G 11)), (1, .int (zI t)), (2, .int (zI st)), (3, .int (zI v9)), (4, .int (zI (pkN (J 11 2) t (J 12) st i))), (5, .int (zI (i : Int)))]) B dX0_peakOf_26 rfl (by decide) rfl (fun _ => rfl) (fun v3 hv3 => ?_)
    rw [show v3 = airN (J 11 2) t (J 12) st (i + 1) from (by rw [hv3]; rfl)]
    refine gx_iload_n B dX0_peakOf_27 rfl rfl ?_
    refine z_if_ge (tgt := 33) B dX0_peakOf_28 ⟨by omega, by omega⟩ (by decide) (fun c28 => ?_) (fun c28 => ?_)
    · refine gx_iload B dX0_peakOf_33 rfl ?_
      refine gx_iload_n B dX0_peakOf_35 rfl rfl ?_
      refine z_mmax B lm_X0_61 (by decide) (Nat.le_of_ble_eq_true rfl) ⟨by omega, by omega⟩ ⟨by omega, by omega⟩ dX0_peakOf_36 ?_
      refine z_istore (fun v9 => [(0, .ref (gx_ad G 11)), (1, .int (zI t)), (2, .int (zI st)), (3, .int (zI (airN (J 11 2) t (J 12) st (i + 1)))), (4, .int (zI v9)), (5, .int (zI (i : Int)))]) B dX0_peakOf_39 (by decide) rfl (fun _ => rfl) (fun v4 hv4 => ?_)
      rw [show v4 = pkN (J 11 2) t (J 12) st (i + 1) from (by rw [hv4]; rfl)]
      refine z_iinc (fun v9 => [(0, .ref (gx_ad G 11)), (1, .int (zI t)), (2, .int (zI st)), (3, .int (zI (airN (J 11 2) t (J 12) st (i + 1)))), (4, .int (zI (pkN (J 11 2) t (J 12) st (i + 1)))), (5, .int (zI v9))]) B dX0_peakOf_41 rfl (by decide) rfl (fun _ => rfl) (fun v5 hv5 => ?_)
      rw [show v5 = ((i + 1 : Nat) : Int) from (by omega)]
      refine gx_goto (tgt := 8) B dX0_peakOf_44 (by decide) ?_
      refine ih (by omega) (fun b hb => ?_)
      by_cases e : b = i
      · rw [e]; exact c28
      · exact hno b (by omega)
    · refine z_iconst B dX0_peakOf_31 ?_
      refine z_ireti B Rt dX0_peakOf_32 ?_
      exact ⟨Or.inl ⟨rfl, i, by omega, c28⟩, rfl⟩

theorem mX0_peakOf {l : Launch} {G : gx_G} (hG : gx_OK G 76) (J : zJ) {t st : Int} {N : Nat} (hB : BPre J N) (h0 : 0 ≤ st) (h1 : st ≤ 400) : zMi l G yX0_peakOf cX0_peakOf 6 .int rmX0_peakOf [.ref (gx_ad G 11), .int (zI t), .int (zI st)] J (fun r J' => (r = -1 ∧ (∃ b, b < N ∧ airN (J 11 2) t (J 12) st (b + 1) < 0) ∨ r = pkN (J 11 2) t (J 12) st N ∧ ∀ b, b < N → 0 ≤ airN (J 11 2) t (J 12) st (b + 1)) ∧ J' = J) := by
  refine gx_mi hG (by decide) (Nat.le_of_ble_eq_true rfl) (fun X hla B Rt => ?_)
  subst hla
  have B : gx_B G X RX0 cX0_peakOf 6 rmX0_peakOf 76 := B
  show gx_WG G X 6 (zh J) 0 [(0, .ref (gx_ad G 11)), (1, .int (zI t)), (2, .int (zI st))] []
  refine gx_iload_n B dX0_peakOf_0 rfl rfl ?_
  refine z_istore_n (fun v9 => [(0, .ref (gx_ad G 11)), (1, .int (zI t)), (2, .int (zI st)), (3, .int (zI v9))]) B dX0_peakOf_1 rfl (by decide) rfl (fun _ => rfl) (fun v3 hv3 => ?_)
  rw [show v3 = airN (J 11 2) t (J 12) st 0 from (by rw [hv3]; rfl)]
  refine gx_iload_n B dX0_peakOf_2 rfl rfl ?_
  refine z_istore (fun v9 => [(0, .ref (gx_ad G 11)), (1, .int (zI t)), (2, .int (zI st)), (3, .int (zI (airN (J 11 2) t (J 12) st 0))), (4, .int (zI v9))]) B dX0_peakOf_3 (by decide) rfl (fun _ => rfl) (fun v4 hv4 => ?_)
  rw [show v4 = pkN (J 11 2) t (J 12) st 0 from (by rw [hv4]; rfl)]
  refine z_iconst B dX0_peakOf_5 ?_
  refine z_istore (fun v9 => [(0, .ref (gx_ad G 11)), (1, .int (zI t)), (2, .int (zI st)), (3, .int (zI (airN (J 11 2) t (J 12) st 0))), (4, .int (zI (pkN (J 11 2) t (J 12) st 0))), (5, .int (zI v9))]) B dX0_peakOf_6 (by decide) rfl (fun _ => rfl) (fun v5 hv5 => ?_)
  rw [show v5 = ((0 : Nat) : Int) from (by omega)]
  exact lpPeak hG B hB h0 h1 Rt 0 (by omega) (fun b hb => by omega)

theorem lpPrice {G : gx_G} {X : gx_X} (hG : gx_OK G 76) (B : gx_B G X RX0 cX0_priceOf 4 rmX0_priceOf 76) {J : zJ} {t : Int} {N : Nat} (hB : BPre J N) (Rt : gx_Ri G X .int (zpi (fun r J' => r = sumN (prc (J 11 2) t (J 13)) N ∧ J' = J))) : ∀ i : Nat, i ≤ (max N 1) → 1 ≤ i → (N = 0 → sumN (prc (J 11 2) t (J 13)) i = 0) → gx_WG G X 4 (zh J) 4 [(0, .ref (gx_ad G 11)), (1, .int (zI t)), (2, .int (zI (sumN (prc (J 11 2) t (J 13)) i))), (3, .int (zI (i : Int)))] [] := by
  refine up_ind (fun i hi ih => ?_)
  intro hi1 hz
  have h2 := hB.1
  have h8 := hB.2.1
  refine gx_iload_n B dX0_priceOf_4 rfl rfl ?_
  refine gx_aload_n B dX0_priceOf_5 rfl rfl ?_
  refine z_geti B fl_X0_18 rfl (by decide) rfl dX0_priceOf_6 ?_
  refine z_icmp_ge (tgt := 40) B dX0_priceOf_9 ⟨by omega, by omega⟩ ⟨by omega, by omega⟩ (by decide) (fun c9 => ?_) (fun c9 => ?_)
  · refine gx_iload_n B dX0_priceOf_40 rfl rfl ?_
    refine z_ireti B Rt dX0_priceOf_41 ?_
    refine ⟨?_, rfl⟩
    by_cases e : N = 0
    · rw [hz e, e]; rfl
    · rw [show i = N by omega]
  · have hm := (hB.2.2 i (by omega)).2
    refine gx_aload_n B dX0_priceOf_12 rfl rfl ?_
    refine gx_iload_n B dX0_priceOf_13 rfl rfl ?_
    refine gx_iload_n B dX0_priceOf_14 rfl rfl ?_
    refine z_callVi [.int (zI t), .int (zI (i : Int))] B lv_X0_76 (mX0_turnsAt hG J (t := t) (b := i) (by omega)) rfl (by decide) rfl rfl (Nat.le_of_ble_eq_true rfl) (by decide) (by decide) dX0_priceOf_15 (fun r2 J1 hJ1 => ?_)
    rw [show r2 = bz (trn (J 11 2) t i) from hJ1.1, hJ1.2]
    refine z_if_eq (tgt := 34) B dX0_priceOf_18 (bzB _) (by decide) (fun c18 => ?_) (fun c18 => ?_)
    · rw [bz_0] at c18
      have e2 : sumN (prc (J 11 2) t (J 13)) (i + 1) = sumN (prc (J 11 2) t (J 13)) i := by
        show sumN (prc (J 11 2) t (J 13)) i + prc (J 11 2) t (J 13) i = _
        unfold prc
        rw [if_neg c18]; omega
      refine z_iinc (fun v9 => [(0, .ref (gx_ad G 11)), (1, .int (zI t)), (2, .int (zI (sumN (prc (J 11 2) t (J 13)) i))), (3, .int (zI v9))]) B dX0_priceOf_34 rfl (by decide) rfl (fun _ => rfl) (fun v3 hv3 => ?_)
      rw [show v3 = ((i + 1 : Nat) : Int) from (by omega)]
      refine gx_goto (tgt := 4) B dX0_priceOf_37 (by decide) ?_
      have h9 := ih (by omega) (by omega) (fun q => by omega)
      rw [e2] at h9
      exact h9
    · rw [bz_n0] at c18
      have e2 : sumN (prc (J 11 2) t (J 13)) (i + 1) = sumN (prc (J 11 2) t (J 13)) i + z_turnN (J 13 i).toNat := by
        show sumN (prc (J 11 2) t (J 13)) i + prc (J 11 2) t (J 13) i = _
        unfold prc
        rw [if_pos c18]
      refine gx_iload_n B dX0_priceOf_21 rfl rfl ?_
      refine gx_getTurn B rfl dX0_priceOf_22 ?_
      refine gx_aload_n B dX0_priceOf_25 rfl rfl ?_
      refine gx_getr (t := 13) B fl_X0_15 rfl (by decide) rfl dX0_priceOf_26 ?_
      refine gx_iload_n B dX0_priceOf_29 rfl rfl ?_
      refine z_iald i B rfl (by decide) rfl (show i < 8 by omega) (by decide) dX0_priceOf_30 ?_
      refine z_turnAt ((J 13 i).toNat) B (by omega) (by omega) dX0_priceOf_31 ?_
      refine z_iadd B dX0_priceOf_32 ?_
      refine z_istore_n (fun v9 => [(0, .ref (gx_ad G 11)), (1, .int (zI t)), (2, .int (zI v9)), (3, .int (zI (i : Int)))]) B dX0_priceOf_33 rfl (by decide) rfl (fun _ => rfl) (fun v2 hv2 => ?_)
      rw [show v2 = sumN (prc (J 11 2) t (J 13)) (i + 1) from (by rw [hv2, e2])]
      refine z_iinc (fun v9 => [(0, .ref (gx_ad G 11)), (1, .int (zI t)), (2, .int (zI (sumN (prc (J 11 2) t (J 13)) (i + 1)))), (3, .int (zI v9))]) B dX0_priceOf_34 rfl (by decide) rfl (fun _ => rfl) (fun v3 hv3 => ?_)
      rw [show v3 = ((i + 1 : Nat) : Int) from (by omega)]
      refine gx_goto (tgt := 4) B dX0_priceOf_37 (by decide) ?_
      have h9 := ih (by omega) (by omega) (fun q => by omega)
      exact h9

theorem mX0_priceOf {l : Launch} {G : gx_G} (hG : gx_OK G 76) (J : zJ) {t : Int} {N : Nat} (hB : BPre J N) : zMi l G yX0_priceOf cX0_priceOf 4 .int rmX0_priceOf [.ref (gx_ad G 11), .int (zI t)] J (fun r J' => r = sumN (prc (J 11 2) t (J 13)) N ∧ J' = J) := by
  refine gx_mi hG (by decide) (Nat.le_of_ble_eq_true rfl) (fun X hla B Rt => ?_)
  subst hla
  have B : gx_B G X RX0 cX0_priceOf 4 rmX0_priceOf 76 := B
  show gx_WG G X 4 (zh J) 0 [(0, .ref (gx_ad G 11)), (1, .int (zI t))] []
  refine z_iconst B dX0_priceOf_0 ?_
  refine z_istore_n (fun v9 => [(0, .ref (gx_ad G 11)), (1, .int (zI t)), (2, .int (zI v9))]) B dX0_priceOf_1 rfl (by decide) rfl (fun _ => rfl) (fun v2 hv2 => ?_)
  rw [show v2 = sumN (prc (J 11 2) t (J 13)) 1 from (by rw [hv2]; show (0 : Int) = 0 + prc (J 11 2) t (J 13) 0; unfold prc; rw [if_neg (by omega)]; rfl)]
  refine z_iconst B dX0_priceOf_2 ?_
  refine z_istore_n (fun v9 => [(0, .ref (gx_ad G 11)), (1, .int (zI t)), (2, .int (zI (sumN (prc (J 11 2) t (J 13)) 1))), (3, .int (zI v9))]) B dX0_priceOf_3 rfl (by decide) rfl (fun _ => rfl) (fun v3 hv3 => ?_)
  rw [show v3 = ((1 : Nat) : Int) from (by omega)]
  refine lpPrice hG B hB Rt 1 (by omega) (by omega) (fun _ => ?_)
  show (0 : Int) + prc (J 11 2) t (J 13) 0 = 0
  unfold prc
  rw [if_neg (by omega)]; rfl

theorem lpTurns {G : gx_G} {X : gx_X} (hG : gx_OK G 76) (B : gx_B G X RX0 cX0_turnsOf 4 rmX0_turnsOf 76) {J : zJ} {t : Int} {N : Nat} (hB : BPre J N) (Rt : gx_Ri G X .int (zpi (fun r J' => r = sumN (tct (J 11 2) t) N ∧ J' = J))) : ∀ i : Nat, i ≤ (max N 1) → 1 ≤ i → (N = 0 → sumN (tct (J 11 2) t) i = 0) → gx_WG G X 4 (zh J) 4 [(0, .ref (gx_ad G 11)), (1, .int (zI t)), (2, .int (zI (sumN (tct (J 11 2) t) i))), (3, .int (zI (i : Int)))] [] := by
  refine up_ind (fun i hi ih => ?_)
  intro hi1 hz
  have h2 := hB.1
  have h8 := hB.2.1
  refine gx_iload_n B dX0_turnsOf_4 rfl rfl ?_
  refine gx_aload_n B dX0_turnsOf_5 rfl rfl ?_
  refine z_geti B fl_X0_18 rfl (by decide) rfl dX0_turnsOf_6 ?_
  refine z_icmp_ge (tgt := 30) B dX0_turnsOf_9 ⟨by omega, by omega⟩ ⟨by omega, by omega⟩ (by decide) (fun c9 => ?_) (fun c9 => ?_)
  · refine gx_iload_n B dX0_turnsOf_30 rfl rfl ?_
    refine z_ireti B Rt dX0_turnsOf_31 ?_
    refine ⟨?_, rfl⟩
    by_cases e : N = 0
    · rw [hz e, e]; rfl
    · rw [show i = N by omega]
  · refine gx_aload_n B dX0_turnsOf_12 rfl rfl ?_
    refine gx_iload_n B dX0_turnsOf_13 rfl rfl ?_
    refine gx_iload_n B dX0_turnsOf_14 rfl rfl ?_
    refine z_callVi [.int (zI t), .int (zI (i : Int))] B lv_X0_76 (mX0_turnsAt hG J (t := t) (b := i) (by omega)) rfl (by decide) rfl rfl (Nat.le_of_ble_eq_true rfl) (by decide) (by decide) dX0_turnsOf_15 (fun r2 J1 hJ1 => ?_)
    rw [show r2 = bz (trn (J 11 2) t i) from hJ1.1, hJ1.2]
    refine z_if_eq (tgt := 24) B dX0_turnsOf_18 (bzB _) (by decide) (fun c18 => ?_) (fun c18 => ?_)
    · rw [bz_0] at c18
      have e2 : sumN (tct (J 11 2) t) (i + 1) = sumN (tct (J 11 2) t) i := by
        show sumN (tct (J 11 2) t) i + tct (J 11 2) t i = _
        unfold tct
        rw [if_neg c18]; omega
      refine z_iinc (fun v9 => [(0, .ref (gx_ad G 11)), (1, .int (zI t)), (2, .int (zI (sumN (tct (J 11 2) t) i))), (3, .int (zI v9))]) B dX0_turnsOf_24 rfl (by decide) rfl (fun _ => rfl) (fun v3 hv3 => ?_)
      rw [show v3 = ((i + 1 : Nat) : Int) from (by omega)]
      refine gx_goto (tgt := 4) B dX0_turnsOf_27 (by decide) ?_
      have h9 := ih (by omega) (by omega) (fun q => by omega)
      rw [e2] at h9
      exact h9
    · rw [bz_n0] at c18
      have e2 : sumN (tct (J 11 2) t) (i + 1) = sumN (tct (J 11 2) t) i + 1 := by
        show sumN (tct (J 11 2) t) i + tct (J 11 2) t i = _
        unfold tct
        rw [if_pos c18]
      refine z_iinc (fun v9 => [(0, .ref (gx_ad G 11)), (1, .int (zI t)), (2, .int (zI v9)), (3, .int (zI (i : Int)))]) B dX0_turnsOf_21 rfl (by decide) rfl (fun _ => rfl) (fun v2 hv2 => ?_)
      rw [show v2 = sumN (tct (J 11 2) t) (i + 1) from (by rw [hv2, e2])]
      refine z_iinc (fun v9 => [(0, .ref (gx_ad G 11)), (1, .int (zI t)), (2, .int (zI (sumN (tct (J 11 2) t) (i + 1)))), (3, .int (zI v9))]) B dX0_turnsOf_24 rfl (by decide) rfl (fun _ => rfl) (fun v3 hv3 => ?_)
      rw [show v3 = ((i + 1 : Nat) : Int) from (by omega)]
      refine gx_goto (tgt := 4) B dX0_turnsOf_27 (by decide) ?_
      have h9 := ih (by omega) (by omega) (fun q => by omega)
      exact h9

theorem mX0_turnsOf {l : Launch} {G : gx_G} (hG : gx_OK G 76) (J : zJ) {t : Int} {N : Nat} (hB : BPre J N) : zMi l G yX0_turnsOf cX0_turnsOf 4 .int rmX0_turnsOf [.ref (gx_ad G 11), .int (zI t)] J (fun r J' => r = sumN (tct (J 11 2) t) N ∧ J' = J) := by
  refine gx_mi hG (by decide) (Nat.le_of_ble_eq_true rfl) (fun X hla B Rt => ?_)
  subst hla
  have B : gx_B G X RX0 cX0_turnsOf 4 rmX0_turnsOf 76 := B
  show gx_WG G X 4 (zh J) 0 [(0, .ref (gx_ad G 11)), (1, .int (zI t))] []
  refine z_iconst B dX0_turnsOf_0 ?_
  refine z_istore_n (fun v9 => [(0, .ref (gx_ad G 11)), (1, .int (zI t)), (2, .int (zI v9))]) B dX0_turnsOf_1 rfl (by decide) rfl (fun _ => rfl) (fun v2 hv2 => ?_)
  rw [show v2 = sumN (tct (J 11 2) t) 1 from (by rw [hv2]; show (0 : Int) = 0 + tct (J 11 2) t 0; unfold tct; rw [if_neg (by omega)]; rfl)]
  refine z_iconst B dX0_turnsOf_2 ?_
  refine z_istore_n (fun v9 => [(0, .ref (gx_ad G 11)), (1, .int (zI t)), (2, .int (zI (sumN (tct (J 11 2) t) 1))), (3, .int (zI v9))]) B dX0_turnsOf_3 rfl (by decide) rfl (fun _ => rfl) (fun v3 hv3 => ?_)
  rw [show v3 = ((1 : Nat) : Int) from (by omega)]
  refine lpTurns hG B hB Rt 1 (by omega) (by omega) (fun _ => ?_)
  show (0 : Int) + tct (J 11 2) t 0 = 0
  unfold tct
  rw [if_neg (by omega)]; rfl

theorem lpAirB {G : gx_G} {X : gx_X} (hG : gx_OK G 76) (B : gx_B G X RX0 cX0_airBehind 5 rmX0_airBehind 76) {J : zJ} {st : Int} {b : Nat} (hb : b < 8) (Rt : gx_Ri G X .int (zpi (fun r J' => r = airN (J 11 2) (J 11 3) (J 12) st (b + 1) ∧ J' = J))) : ∀ i : Nat, i ≤ (b + 1) → gx_WG G X 5 (zh J) 5 [(0, .ref (gx_ad G 11)), (1, .int (zI (b : Int))), (2, .int (zI st)), (3, .int (zI (airN (J 11 2) (J 11 3) (J 12) st i))), (4, .int (zI (i : Int)))] [] := by
  refine up_ind (fun i hi ih => ?_)
  refine gx_iload B dX0_airBehind_5 rfl ?_
  refine gx_iload_n B dX0_airBehind_7 rfl rfl ?_
  refine z_icmp_gt (tgt := 30) B dX0_airBehind_8 ⟨by omega, by omega⟩ ⟨by omega, by omega⟩ (by decide) (fun c8 => ?_) (fun c8 => ?_)
  · refine gx_iload_n B dX0_airBehind_30 rfl rfl ?_
    refine z_ireti B Rt dX0_airBehind_31 ?_
    refine ⟨?_, rfl⟩
    rw [show i = b + 1 by omega]
  · refine gx_iload_n B dX0_airBehind_11 rfl rfl ?_
    refine gx_aload_n B dX0_airBehind_12 rfl rfl ?_
    refine gx_aload_n B dX0_airBehind_13 rfl rfl ?_
    refine z_geti B fl_X0_22 rfl (by decide) rfl dX0_airBehind_14 ?_
    refine gx_iload B dX0_airBehind_17 rfl ?_
    refine z_callVi [.int (zI (J 11 3)), .int (zI (i : Int))] B lv_X0_79 (mX0_airMoved hG J (t := J 11 3) (b := i) (by omega)) rfl (by decide) rfl rfl (Nat.le_of_ble_eq_true rfl) (by decide) (by decide) dX0_airBehind_19 (fun r2 J1 hJ1 => ?_)
    rw [show r2 = mvZ (J 11 2) (J 11 3) (J 12) i from hJ1.1, hJ1.2]
    refine z_iadd B dX0_airBehind_22 ?_
    refine z_istore_n (fun v9 => [(0, .ref (gx_ad G 11)), (1, .int (zI (b : Int))), (2, .int (zI st)), (3, .int (zI v9)), (4, .int (zI (i : Int)))]) B dX0_airBehind_23 rfl (by decide) rfl (fun _ => rfl) (fun v3 hv3 => ?_)
    rw [show v3 = airN (J 11 2) (J 11 3) (J 12) st (i + 1) from (by rw [hv3]; rfl)]
    refine z_iinc (fun v9 => [(0, .ref (gx_ad G 11)), (1, .int (zI (b : Int))), (2, .int (zI st)), (3, .int (zI (airN (J 11 2) (J 11 3) (J 12) st (i + 1)))), (4, .int (zI v9))]) B dX0_airBehind_24 rfl (by decide) rfl (fun _ => rfl) (fun v4 hv4 => ?_)
    rw [show v4 = ((i + 1 : Nat) : Int) from (by omega)]
    refine gx_goto (tgt := 5) B dX0_airBehind_27 (by decide) ?_
    exact ih (by omega)

theorem mX0_airBehind {l : Launch} {G : gx_G} (hG : gx_OK G 76) (J : zJ) {st : Int} {b : Nat} (hb : b < 8) : zMi l G yX0_airBehind cX0_airBehind 5 .int rmX0_airBehind [.ref (gx_ad G 11), .int (zI (b : Int)), .int (zI st)] J (fun r J' => r = airN (J 11 2) (J 11 3) (J 12) st (b + 1) ∧ J' = J) := by
  refine gx_mi hG (by decide) (Nat.le_of_ble_eq_true rfl) (fun X hla B Rt => ?_)
  subst hla
  have B : gx_B G X RX0 cX0_airBehind 5 rmX0_airBehind 76 := B
  show gx_WG G X 5 (zh J) 0 [(0, .ref (gx_ad G 11)), (1, .int (zI (b : Int))), (2, .int (zI st))] []
  refine gx_iload_n B dX0_airBehind_0 rfl rfl ?_
  refine z_istore_n (fun v9 => [(0, .ref (gx_ad G 11)), (1, .int (zI (b : Int))), (2, .int (zI st)), (3, .int (zI v9))]) B dX0_airBehind_1 rfl (by decide) rfl (fun _ => rfl) (fun v3 hv3 => ?_)
  rw [show v3 = airN (J 11 2) (J 11 3) (J 12) st 0 from (by rw [hv3]; rfl)]
  refine z_iconst B dX0_airBehind_2 ?_
  refine z_istore (fun v9 => [(0, .ref (gx_ad G 11)), (1, .int (zI (b : Int))), (2, .int (zI st)), (3, .int (zI (airN (J 11 2) (J 11 3) (J 12) st 0))), (4, .int (zI v9))]) B dX0_airBehind_3 (by decide) rfl (fun _ => rfl) (fun v4 hv4 => ?_)
  rw [show v4 = ((0 : Nat) : Int) from (by omega)]
  exact lpAirB hG B hb Rt 0 (by omega)

