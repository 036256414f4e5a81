theorem lpOnes {G : gx_G} {X : gx_X} (hG : gx_OK G 91) (B : gx_B G X RX6 cX6_ones 3 rmX6_ones 91) {J : zJ} {x : Int} (Rt : gx_Ri G X .int (zpi (fun r J' => r = ones x ∧ J' = J))) : ∀ i : Nat, i ≤ 12 → gx_WG G X 3 (zh J) 4 [(0, .int (zI x)), (1, .int (zI (onesN x i))), (2, .int (zI (i : Int)))] [] := by
  refine up_ind (fun i hi ih => ?_)
  refine gx_iload_n B dX6_ones_4 rfl rfl ?_
  refine z_bipush B dX6_ones_5 (by decide) ?_
  refine z_icmp_ge (tgt := 24) B dX6_ones_7 ⟨by omega, by omega⟩ ⟨by omega, by omega⟩ (by decide) (fun c7_1 => ?_) (fun c7_1 => ?_)
  · refine gx_iload_n B dX6_ones_24 rfl rfl ?_
    refine z_ireti B Rt dX6_ones_25 ?_
    refine ⟨?_, rfl⟩
    rw [show i = 12 by omega]
  · refine gx_iload_n B dX6_ones_10 rfl rfl ?_
    refine gx_iload_n B dX6_ones_11 rfl rfl ?_
    refine gx_iload_n B dX6_ones_12 rfl rfl ?_
    refine z_ishr B dX6_ones_13 ?_
    refine z_iconst B dX6_ones_14 ?_
    refine z_iand B dX6_ones_15 ?_
    refine z_iadd B dX6_ones_16 ?_
    refine z_istore_n (fun v9 => [(0, .int (zI x)), (1, .int (zI v9)), (2, .int (zI (i : Int)))]) B dX6_ones_17 rfl (by decide) rfl (fun _ => rfl) (fun v1 hv1 => ?_)
    rw [show v1 = onesN x (i + 1) from (by rw [hv1]; rfl)]
    refine z_iinc (fun v9 => [(0, .int (zI x)), (1, .int (zI (onesN x (i + 1)))), (2, .int (zI v9))]) B dX6_ones_18 rfl (by decide) rfl (fun _ => rfl) (fun v2 hv2 => ?_)
    rw [show v2 = ((i + 1 : Nat) : Int) from (by omega)]
    refine gx_goto (tgt := 4) B dX6_ones_21 (by decide) ?_
    exact ih (by omega)

theorem mX6_ones {l : Launch} {G : gx_G} (hG : gx_OK G 91) (J : zJ) {x : Int} : zMi l G yX6_ones cX6_ones 3 .int rmX6_ones [.int (zI x)] J (fun r J' => r = ones x ∧ J' = J) := by
  refine gx_mi hG (by decide) (Nat.le_of_ble_eq_true rfl) (fun X hla B Rt => ?_)
  subst hla
  have B : gx_B G X RX6 cX6_ones 3 rmX6_ones 91 := B
  show gx_WG G X 3 (zh J) 0 [(0, .int (zI x))] []
  refine z_iconst B dX6_ones_0 ?_
  refine z_istore_n (fun v9 => [(0, .int (zI x)), (1, .int (zI v9))]) B dX6_ones_1 rfl (by decide) rfl (fun _ => rfl) (fun v1 hv1 => ?_)
  rw [show v1 = onesN x 0 from (by rw [hv1]; rfl)]
  refine z_iconst B dX6_ones_2 ?_
  refine z_istore_n (fun v9 => [(0, .int (zI x)), (1, .int (zI (onesN x 0))), (2, .int (zI v9))]) B dX6_ones_3 rfl (by decide) rfl (fun _ => rfl) (fun v2 hv2 => ?_)
  rw [show v2 = ((0 : Nat) : Int) from (by omega)]
  exact lpOnes hG B Rt 0 (by omega)


def TR (J : zJ) (xs : List Int) : Prop := J 76 10 = (xs.length : Int) ∧ ∀ k, k < xs.length → J 85 k = xs.getD k 0
def shT (J : zJ) (i m : Nat) : zJ := fun a k => if a = 85 ∧ i < k ∧ k ≤ m then J 85 (k - 1) else J a k
theorem shT_start (J : zJ) (m : Nat) : shT J m m = J := by
  funext a k
  unfold shT
  rw [if_neg (by omega)]
theorem shT_step {J : zJ} {i m : Nat} (h0 : 0 < i) (hm : i ≤ m) : zup (shT J i m) 85 i (shT J i m 85 (i - 1)) = shT J (i - 1) m := by
  funext a k
  unfold zup
  by_cases e : a = 85 ∧ k = i
  · rw [if_pos e]
    unfold shT
    rw [if_neg (by omega), if_pos (by omega), e.2]
  · rw [if_neg e]
    unfold shT
    by_cases e2 : a = 85 ∧ i < k ∧ k ≤ m
    · rw [if_pos e2, if_pos (by omega)]
    · rw [if_neg e2, if_neg (by omega)]
theorem oi_get {c : Int} {xs : List Int} {p : Nat} (hp : p ≤ xs.length) (h1 : ∀ j, j < p → xs.getD j 0 ≤ c) (h2 : ∀ j, p ≤ j → j < xs.length → c < xs.getD j 0) (k : Nat) (hk : k < xs.length + 1) :
    (oi c xs).getD k 0 = if k < p then xs.getD k 0 else if k = p then c else xs.getD (k - 1) 0 := by
  rw [oi_at xs p hp h1 h2]
  simp only [List.getD_eq_getElem?_getD]
  by_cases e : k < p
  · rw [if_pos e, List.getElem?_append_left (by simp; omega), List.getElem?_take_of_lt e]
  · rw [if_neg e, List.getElem?_append_right (by simp; omega)]
    rw [List.length_take, Nat.min_eq_left hp]
    by_cases e2 : k = p
    · rw [if_pos e2, e2, Nat.sub_self]; rfl
    · rw [if_neg e2]
      obtain ⟨q, hq⟩ : ∃ q, k - p = q + 1 := ⟨k - p - 1, by omega⟩
      rw [hq, List.getElem?_cons_succ, List.getElem?_drop, show p + q = k - 1 by omega]

theorem lpPress {G : gx_G} {X : gx_X} (hG : gx_OK G 91) (B : gx_B G X RX6 cX6_press 3 rmX6_press 91) {n : Nat} {J : zJ} {c : Int} (hc : zB c) (hn : n ≤ 2) (hB : ∀ k, k < n → zB (J 85 k)) (kk : ∀ p : Nat, p ≤ n → (∀ j, p ≤ j → j < n → c < J 85 j) → (p = 0 ∨ J 85 (p - 1) ≤ c) → gx_WG G X 3 (zh (shT J p n)) 41 [(0, .ref (gx_ad G 76)), (1, .int (zI c)), (2, .int (zI (p : Int)))] []) : ∀ i : Nat, i ≤ n → (∀ j, i ≤ j → j < n → c < J 85 j) → gx_WG G X 3 (zh (shT J i n)) 5 [(0, .ref (gx_ad G 76)), (1, .int (zI c)), (2, .int (zI (i : Int)))] [] := by
  refine dn_ind (fun i ih => ?_)
  intro hp hall
  refine gx_iload_n B dX6_press_5 rfl rfl ?_
  refine z_if_le (tgt := 41) B dX6_press_6 ⟨by omega, by omega⟩ (by decide) (fun c6 => ?_) (fun c6 => ?_)
  · exact kk i hp hall (by first | exact Or.inr c18 | exact Or.inl (by omega))
  · refine gx_aload_n B dX6_press_9 rfl rfl ?_
    refine gx_getr (t := 85) B fl_X6_34 rfl (by decide) rfl dX6_press_10 ?_
    refine gx_iload_n B dX6_press_13 rfl rfl ?_
    refine z_iconst B dX6_press_14 ?_
    refine z_isub B dX6_press_15 ?_
    refine z_iald (i - 1) B rfl (by decide) (by omega) (show i - 1 < 3 by omega) (by decide) dX6_press_16 ?_
    rw [show (shT J i n) 85 (i - 1) = J 85 (i - 1) from (by unfold shT; rw [if_neg (by omega)])]
    refine gx_iload_n B dX6_press_17 rfl rfl ?_
    refine z_icmp_le (tgt := 41) B dX6_press_18 (hB (i - 1) (by omega)) hc (by decide) (fun c18 => ?_) (fun c18 => ?_)
    · exact kk i hp hall (by first | exact Or.inr c18 | exact Or.inl (by omega))
    · refine gx_aload_n B dX6_press_21 rfl rfl ?_
      refine gx_getr (t := 85) B fl_X6_34 rfl (by decide) rfl dX6_press_22 ?_
      refine gx_iload_n B dX6_press_25 rfl rfl ?_
      refine gx_aload_n B dX6_press_26 rfl rfl ?_
      refine gx_getr (t := 85) B fl_X6_34 rfl (by decide) rfl dX6_press_27 ?_
      refine gx_iload_n B dX6_press_30 rfl rfl ?_
      refine z_iconst B dX6_press_31 ?_
      refine z_isub B dX6_press_32 ?_
      refine z_iald (i - 1) B rfl (by decide) (by omega) (show i - 1 < 3 by omega) (by decide) dX6_press_33 ?_
      refine z_iast i B rfl (by decide) rfl (show i < 3 by omega) (by decide) dX6_press_34 (fun J1 hJ1 => ?_)
      refine z_iinc (fun v9 => [(0, .ref (gx_ad G 76)), (1, .int (zI c)), (2, .int (zI v9))]) B dX6_press_35 rfl (by decide) rfl (fun _ => rfl) (fun v2 hv2 => ?_)
      rw [show v2 = ((i - 1 : Nat) : Int) from (by omega)]
      refine gx_goto (tgt := 5) B dX6_press_38 (by decide) ?_
      rw [shT_step (by omega) hp] at hJ1
      rw [hJ1]
      refine ih (i - 1) (by omega) (by omega) (fun j h1 h2 => ?_)
      by_cases e : j = i - 1
      · rw [e]; exact c18
      · exact hall j (by omega) h2

theorem mX6_press {l : Launch} {G : gx_G} (hG : gx_OK G 91) (J : zJ) {c : Int} (hc : zB c) (xs : List Int) (hs : TR J xs) (hn0 : xs.length ≤ 2) (ho : srtd xs) (hB0 : ∀ k, k < xs.length → zB (xs.getD k 0)) : zMv l G yX6_press cX6_press 3 rmX6_press [.ref (gx_ad G 76), .int (zI c)] J (fun J' => TR J' (oi c xs) ∧ ∀ a k, a ≠ 85 → ¬ (a = 76 ∧ k = 10) → J' a k = J a k) := by
  refine gx_mv hG (by decide) (Nat.le_of_ble_eq_true rfl) (fun X hla B Rt => ?_)
  subst hla
  have B : gx_B G X RX6 cX6_press 3 rmX6_press 91 := B
  show gx_WG G X 3 (zh J) 0 [(0, .ref (gx_ad G 76)), (1, .int (zI c))] []
  obtain ⟨n, hn1⟩ : ∃ n, n = xs.length := ⟨_, rfl⟩
  have hn : n ≤ 2 := by omega
  have hJn : J 76 10 = (n : Int) := by rw [hs.1, hn1]
  have hB : ∀ k, k < n → zB (J 85 k) := fun k hk => by rw [hs.2 k (by omega)]; exact hB0 k (by omega)
  refine gx_aload_n B dX6_press_0 rfl rfl ?_
  refine z_geti B fl_X6_82 rfl (by decide) rfl dX6_press_1 ?_
  refine z_istore_n (fun v9 => [(0, .ref (gx_ad G 76)), (1, .int (zI c)), (2, .int (zI v9))]) B dX6_press_4 rfl (by decide) rfl (fun _ => rfl) (fun v2 hv2 => ?_)
  rw [show v2 = (n : Int) from (by rw [hv2]; exact hJn)]
  rw [← shT_start J n]
  refine lpPress hG B hc hn hB (fun p hp hall hle => ?_) n (Nat.le_refl _) (fun j h1 h2 => by omega)
  refine gx_aload_n B dX6_press_41 rfl rfl ?_
  refine gx_getr (t := 85) B fl_X6_34 rfl (by decide) rfl dX6_press_42 ?_
  refine gx_iload_n B dX6_press_45 rfl rfl ?_
  refine gx_iload_n B dX6_press_46 rfl rfl ?_
  refine z_iast p B rfl (by decide) rfl (show p < 3 by omega) (by decide) dX6_press_47 (fun J1 hJ1 => ?_)
  have hJg : J1 76 10 = (n : Int) := by
    rw [hJ1, zup_ne (by omega)]
    unfold shT
    rw [if_neg (by omega)]
    exact hJn
  refine gx_aload_n B dX6_press_48 rfl rfl ?_
  refine gx_dup B dX6_press_49 rfl ?_
  refine z_geti B fl_X6_82 rfl (by decide) rfl dX6_press_50 ?_
  refine z_iconst B dX6_press_53 ?_
  refine z_iadd B dX6_press_54 ?_
  refine z_puti B fw_X6_82 rfl (by decide) rfl dX6_press_55 (fun J2 hJ2 => ?_)
  refine z_ret B Rt dX6_press_58 ?_
  have hle2 : ∀ j, j < p → xs.getD j 0 ≤ c := fun j hj => by
    have h1 : J 85 (p - 1) ≤ c := by
      rcases hle with h | h
      · omega
      · exact h
    rw [hs.2 (p - 1) (by omega)] at h1
    exact Int.le_trans (srtd_le ho (show j ≤ p - 1 by omega) (by omega)) h1
  have hgt : ∀ j, p ≤ j → j < xs.length → c < xs.getD j 0 := fun j h1 h2 => by
    rw [← hs.2 j h2]
    exact hall j h1 (by omega)
  refine ⟨⟨?_, fun k hk => ?_⟩, fun a k h1 h2 => ?_⟩
  · rw [hJ2, zup_self, hJg, oi_len]; omega
  · rw [oi_len] at hk
    rw [oi_get (by omega) hle2 hgt k hk, hJ2, zup_ne (by omega), hJ1]
    by_cases e : k < p
    · rw [if_pos e, zup_ne (by omega)]
      unfold shT
      rw [if_neg (by omega)]
      exact hs.2 k (by omega)
    · rw [if_neg e]
      by_cases e2 : k = p
      · rw [if_pos e2, e2, zup_self]
      · rw [if_neg e2, zup_ne (by omega)]
        unfold shT
        rw [if_pos (by omega)]
        exact hs.2 (k - 1) (by omega)
  · rw [hJ2, zup_ne h2, hJ1, zup_ne (by omega)]
    unfold shT
    rw [if_neg (by omega)]


def lexLt (f g : Nat → Int) (n : Nat) : Prop := ∃ k, k < n ∧ (∀ j, j < k → f j = g j) ∧ f k < g k

theorem lpAhead {G : gx_G} {X : gx_X} (hG : gx_OK G 91) (B : gx_B G X RX6 cX6_isAhead 3 rmX6_isAhead 91) {J : zJ} {at0 m : Nat} (hm : m ≤ 3) (ha : at0 + 3 ≤ 480) (h10 : J 76 10 = (m : Int)) (hB1 : ∀ k, k < m → zB (J 85 k)) (hB2 : ∀ k, k < m → zB (J 84 (at0 + k))) (Rt : gx_Ri G X .boolean (zpi (fun r J' => (r = 1 ∧ lexLt (J 85) (fun j => J 84 (at0 + j)) m ∨ r = 0 ∧ ¬ lexLt (J 85) (fun j => J 84 (at0 + j)) m) ∧ J' = J))) : ∀ i : Nat, i ≤ m → (∀ j, j < i → J 85 j = J 84 (at0 + j)) → gx_WG G X 3 (zh J) 2 [(0, .ref (gx_ad G 76)), (1, .int (zI (at0 : Int))), (2, .int (zI (i : Int)))] [] := by
  refine up_ind (fun i hi ih => ?_)
  intro he
  refine gx_iload_n B dX6_isAhead_2 rfl rfl ?_
  refine gx_aload_n B dX6_isAhead_3 rfl rfl ?_
  refine z_geti B fl_X6_82 rfl (by decide) rfl dX6_isAhead_4 ?_
  refine z_icmp_ge (tgt := 56) B dX6_isAhead_7 ⟨by omega, by omega⟩ ⟨by omega, by omega⟩ (by decide) (fun c7 => ?_) (fun c7 => ?_)
  · refine z_iconst B dX6_isAhead_56 ?_
    refine z_iretz B Rt dX6_isAhead_57 (by decide) ?_
    refine ⟨Or.inr ⟨rfl, fun q => ?_⟩, rfl⟩
    obtain ⟨k, q1, q2, q3⟩ := q
    have := he k (by omega)
    simp only at q3
    omega
  · refine gx_aload_n B dX6_isAhead_10 rfl rfl ?_
    refine gx_getr (t := 85) B fl_X6_34 rfl (by decide) rfl dX6_isAhead_11 ?_
    refine gx_iload_n B dX6_isAhead_14 rfl rfl ?_
    refine z_iald i B rfl (by decide) rfl (show i < 3 by omega) (by decide) dX6_isAhead_15 ?_
    refine gx_aload_n B dX6_isAhead_16 rfl rfl ?_
    refine gx_getr (t := 84) B fl_X6_31 rfl (by decide) rfl dX6_isAhead_17 ?_
    refine gx_iload_n B dX6_isAhead_20 rfl rfl ?_
    refine gx_iload_n B dX6_isAhead_21 rfl rfl ?_
    refine z_iadd B dX6_isAhead_22 ?_
    refine z_iald (at0 + i) B rfl (by decide) (by omega) (show at0 + i < 480 by omega) (by decide) dX6_isAhead_23 ?_
    refine z_icmp_eq (tgt := 50) B dX6_isAhead_24 (hB1 i (by omega)) (hB2 i (by omega)) (by decide) (fun c24 => ?_) (fun c24 => ?_)
    · refine z_iinc (fun v9 => [(0, .ref (gx_ad G 76)), (1, .int (zI (at0 : Int))), (2, .int (zI v9))]) B dX6_isAhead_50 rfl (by decide) rfl (fun _ => rfl) (fun v2 hv2 => ?_)
      rw [show v2 = ((i + 1 : Nat) : Int) from (by omega)]
      refine gx_goto (tgt := 2) B dX6_isAhead_53 (by decide) ?_
      refine ih (by omega) (fun j hj => ?_)
      by_cases e : j = i
      · rw [e]; exact c24
      · exact he j (by omega)
    · refine gx_aload_n B dX6_isAhead_27 rfl rfl ?_
      refine gx_getr (t := 85) B fl_X6_34 rfl (by decide) rfl dX6_isAhead_28 ?_
      refine gx_iload_n B dX6_isAhead_31 rfl rfl ?_
      refine z_iald i B rfl (by decide) rfl (show i < 3 by omega) (by decide) dX6_isAhead_32 ?_
      refine gx_aload_n B dX6_isAhead_33 rfl rfl ?_
      refine gx_getr (t := 84) B fl_X6_31 rfl (by decide) rfl dX6_isAhead_34 ?_
      refine gx_iload_n B dX6_isAhead_37 rfl rfl ?_
      refine gx_iload_n B dX6_isAhead_38 rfl rfl ?_
      refine z_iadd B dX6_isAhead_39 ?_
      refine z_iald (at0 + i) B rfl (by decide) (by omega) (show at0 + i < 480 by omega) (by decide) dX6_isAhead_40 ?_
      refine z_icmp_ge (tgt := 48) B dX6_isAhead_41 (hB1 i (by omega)) (hB2 i (by omega)) (by decide) (fun c41 => ?_) (fun c41 => ?_)
      · refine z_iconst B dX6_isAhead_48 ?_
        refine z_iretz B Rt dX6_isAhead_49 (by decide) ?_
        refine ⟨?_, rfl⟩
        first
         | exact Or.inl ⟨rfl, i, by omega, he, by omega⟩
         | (refine Or.inr ⟨rfl, fun q => ?_⟩
            obtain ⟨k, q1, q2, q3⟩ := q
            rcases Nat.lt_trichotomy k i with h | h | h
            · have := he k h; simp only at q3; omega
            · subst h; simp only at q3; omega
            · exact c24 (q2 i h))
      · refine z_iconst B dX6_isAhead_44 ?_
        refine gx_goto (tgt := 49) B dX6_isAhead_45 (by decide) ?_
        refine z_iretz B Rt dX6_isAhead_49 (by decide) ?_
        refine ⟨?_, rfl⟩
        first
         | exact Or.inl ⟨rfl, i, by omega, he, by omega⟩
         | (refine Or.inr ⟨rfl, fun q => ?_⟩
            obtain ⟨k, q1, q2, q3⟩ := q
            rcases Nat.lt_trichotomy k i with h | h | h
            · have := he k h; simp only at q3; omega
            · subst h; simp only at q3; omega
            · exact c24 (q2 i h))

theorem mX6_isAhead {l : Launch} {G : gx_G} (hG : gx_OK G 91) (J : zJ) {at0 m : Nat} (hm : m ≤ 3) (ha : at0 + 3 ≤ 480) (h10 : J 76 10 = (m : Int)) (hB1 : ∀ k, k < m → zB (J 85 k)) (hB2 : ∀ k, k < m → zB (J 84 (at0 + k))) : zMi l G yX6_isAhead cX6_isAhead 3 .boolean rmX6_isAhead [.ref (gx_ad G 76), .int (zI (at0 : Int))] J (fun r J' => (r = 1 ∧ lexLt (J 85) (fun j => J 84 (at0 + j)) m ∨ r = 0 ∧ ¬ lexLt (J 85) (fun j => J 84 (at0 + j)) m) ∧ J' = J) := by
  refine gx_mi hG (by decide) (Nat.le_of_ble_eq_true rfl) (fun X hla B Rt => ?_)
  subst hla
  have B : gx_B G X RX6 cX6_isAhead 3 rmX6_isAhead 91 := B
  show gx_WG G X 3 (zh J) 0 [(0, .ref (gx_ad G 76)), (1, .int (zI (at0 : Int)))] []
  refine z_iconst B dX6_isAhead_0 ?_
  refine z_istore_n (fun v9 => [(0, .ref (gx_ad G 76)), (1, .int (zI (at0 : Int))), (2, .int (zI v9))]) B dX6_isAhead_1 rfl (by decide) rfl (fun _ => rfl) (fun v2 hv2 => ?_)
  rw [show v2 = ((0 : Nat) : Int) from (by omega)]
  exact lpAhead hG B hm ha h10 hB1 hB2 Rt 0 (by omega) (fun j hj => by omega)

theorem mX6_placeOf {l : Launch} {G : gx_G} (hG : gx_OK G 91) (J : zJ) {b k : Nat} (hb : b < 8) (hk : k < 20) : zMi l G yX6_placeOf cX6_placeOf 3 .int rmX6_placeOf [.ref (gx_ad G 76), .int (zI (b : Int)), .int (zI (k : Int))] J (fun r J' => r = zdiv (J 84 (60 * b + 3 * k)) 6 ∧ J' = J) := by
  refine gx_mi hG (by decide) (Nat.le_of_ble_eq_true rfl) (fun X hla B Rt => ?_)
  subst hla
  have B : gx_B G X RX6 cX6_placeOf 3 rmX6_placeOf 91 := B
  show gx_WG G X 3 (zh J) 0 [(0, .ref (gx_ad G 76)), (1, .int (zI (b : Int))), (2, .int (zI (k : Int)))] []
  refine gx_aload_n B dX6_placeOf_0 rfl rfl ?_
  refine gx_getr (t := 84) B fl_X6_31 rfl (by decide) rfl dX6_placeOf_1 ?_
  refine z_bipush B dX6_placeOf_4 (by decide) ?_
  refine gx_iload_n B dX6_placeOf_6 rfl rfl ?_
  refine z_imul B dX6_placeOf_7 ?_
  refine z_iconst B dX6_placeOf_8 ?_
  refine gx_iload_n B dX6_placeOf_9 rfl rfl ?_
  refine z_imul B dX6_placeOf_10 ?_
  refine z_iadd B dX6_placeOf_11 ?_
  refine z_iald (60 * b + 3 * k) B rfl (by decide) (by omega) (show 60 * b + 3 * k < 480 by omega) (by decide) dX6_placeOf_12 ?_
  refine z_bipush B dX6_placeOf_13 (by decide) ?_
  refine z_idiv B dX6_placeOf_15 (by decide) ?_
  refine z_ireti B Rt dX6_placeOf_16 ?_
  exact ⟨rfl, rfl⟩

theorem mX6_away {l : Launch} {G : gx_G} (hG : gx_OK G 91) (J : zJ) {a b : Int} (ha : zB a) (hb : zB b) : zMi l G yX6_away cX6_away 2 .int rmX6_away [.int (zI a), .int (zI b)] J (fun r J' => r = absZ (a - b) ∧ J' = J) := by
  refine gx_mi hG (by decide) (Nat.le_of_ble_eq_true rfl) (fun X hla B Rt => ?_)
  subst hla
  have B : gx_B G X RX6 cX6_away 2 rmX6_away 91 := B
  show gx_WG G X 2 (zh J) 0 [(0, .int (zI a)), (1, .int (zI b))] []
  refine gx_iload_n B dX6_away_0 rfl rfl ?_
  refine gx_iload_n B dX6_away_1 rfl rfl ?_
  refine z_icmp_ge (tgt := 11) B dX6_away_2 ⟨by omega, by omega⟩ ⟨by omega, by omega⟩ (by decide) (fun c2_1 => ?_) (fun c2_1 => ?_)
  · refine gx_iload_n B dX6_away_11 rfl rfl ?_
    refine gx_iload_n B dX6_away_12 rfl rfl ?_
    refine z_isub B dX6_away_13 ?_
    refine z_ireti B Rt dX6_away_14 ?_
    refine ⟨?_, rfl⟩
    unfold absZ
    split <;> omega
  · refine gx_iload_n B dX6_away_5 rfl rfl ?_
    refine gx_iload_n B dX6_away_6 rfl rfl ?_
    refine z_isub B dX6_away_7 ?_
    refine gx_goto (tgt := 14) B dX6_away_8 (by decide) ?_
    refine z_ireti B Rt dX6_away_14 ?_
    refine ⟨?_, rfl⟩
    unfold absZ
    split <;> omega

theorem lpNext {G : gx_G} {X : gx_X} (hG : gx_OK G 91) (B : gx_B G X RX6 cX6_nextWith 3 rmX6_nextWith 91) {J : zJ} {n : Nat} {f : Int} (h5 : J 77 5 = (n : Int)) (h8 : n ≤ 8) {b0 : Nat} (hz : ∀ b, b0 ≤ b → b < n → 0 ≤ J 82 b ∧ J 82 b ≤ 3) (Rt : gx_Ri G X .int (zpi (fun r J' => (∃ m : Nat, r = m ∧ isNx (J 82) n b0 m) ∧ J' = J))) : ∀ i : Nat, i ≤ n → b0 ≤ i → (∀ x, b0 ≤ x → x < i → ¬ 0 < J 82 x) → gx_WG G X 3 (zh J) 2 [(0, .ref (gx_ad G 76)), (1, .int (zI f)), (2, .int (zI (i : Int)))] [] := by
  refine up_ind (fun i hi ih => ?_)
  intro hb0 hno
  refine gx_iload_n B dX6_nextWith_2 rfl rfl ?_
  refine gx_aload_n B dX6_nextWith_3 rfl rfl ?_
  refine gx_getr (t := 77) B fl_X6_7 rfl (by decide) rfl dX6_nextWith_4 ?_
  refine z_iconst B dX6_nextWith_7 ?_
  refine z_iald 5 B rfl (by decide) rfl (by decide) (by decide) dX6_nextWith_8 ?_
  refine z_icmp_ge (tgt := 27) B dX6_nextWith_9 ⟨by omega, by omega⟩ ⟨by omega, by omega⟩ (by decide) (fun c9 => ?_) (fun c9 => ?_)
  · refine gx_iload_n B dX6_nextWith_27 rfl rfl ?_
    refine z_ireti B Rt dX6_nextWith_28 ?_
    exact ⟨⟨i, rfl, hb0, hi, hno, fun h => by omega⟩, rfl⟩
  · have hzi := hz i hb0 (by omega)
    refine gx_aload_n B dX6_nextWith_12 rfl rfl ?_
    refine gx_getr (t := 82) B fl_X6_25 rfl (by decide) rfl dX6_nextWith_13 ?_
    refine gx_iload_n B dX6_nextWith_16 rfl rfl ?_
    refine z_iald i B rfl (by decide) rfl (show i < 8 by omega) (by decide) dX6_nextWith_17 ?_
    refine z_if_ne (tgt := 27) B dX6_nextWith_18 ⟨by omega, by omega⟩ (by decide) (fun c18 => ?_) (fun c18 => ?_)
    · refine gx_iload_n B dX6_nextWith_27 rfl rfl ?_
      refine z_ireti B Rt dX6_nextWith_28 ?_
      exact ⟨⟨i, rfl, hb0, hi, hno, fun h => by omega⟩, rfl⟩
    · refine z_iinc (fun v9 => [(0, .ref (gx_ad G 76)), (1, .int (zI f)), (2, .int (zI v9))]) B dX6_nextWith_21 rfl (by decide) rfl (fun _ => rfl) (fun v2 hv2 => ?_)
      rw [show v2 = ((i + 1 : Nat) : Int) from (by omega)]
      refine gx_goto (tgt := 2) B dX6_nextWith_24 (by decide) ?_
      refine ih (by omega) (by omega) (fun x h1 h2 => ?_)
      by_cases e : x = i
      · rw [e]; omega
      · exact hno x h1 (by omega)

theorem mX6_nextWith {l : Launch} {G : gx_G} (hG : gx_OK G 91) (J : zJ) {n b0 : Nat} (h5 : J 77 5 = (n : Int)) (h8 : n ≤ 8) (hz : ∀ b, b0 ≤ b → b < n → 0 ≤ J 82 b ∧ J 82 b ≤ 3) (hb0 : b0 ≤ n) : zMi l G yX6_nextWith cX6_nextWith 3 .int rmX6_nextWith [.ref (gx_ad G 76), .int (zI (b0 : Int))] J (fun r J' => (∃ m : Nat, r = m ∧ isNx (J 82) n b0 m) ∧ J' = J) := by
  refine gx_mi hG (by decide) (Nat.le_of_ble_eq_true rfl) (fun X hla B Rt => ?_)
  subst hla
  have B : gx_B G X RX6 cX6_nextWith 3 rmX6_nextWith 91 := B
  show gx_WG G X 3 (zh J) 0 [(0, .ref (gx_ad G 76)), (1, .int (zI (b0 : Int)))] []
  refine gx_iload_n B dX6_nextWith_0 rfl rfl ?_
  refine z_istore_n (fun v9 => [(0, .ref (gx_ad G 76)), (1, .int (zI (b0 : Int))), (2, .int (zI v9))]) B dX6_nextWith_1 rfl (by decide) rfl (fun _ => rfl) (fun v2 hv2 => ?_)
  rw [show v2 = (b0 : Int) from (by omega)]
  exact lpNext hG B h5 h8 hz Rt b0 hb0 (Nat.le_refl _) (fun x h1 h2 => by omega)

theorem mX6_goesOut {l : Launch} {G : gx_G} (hG : gx_OK G 91) (J : zJ) {t b : Int} : zMi l G yX6_goesOut cX6_goesOut 3 .boolean rmX6_goesOut [.ref (gx_ad G 76), .int (zI t), .int (zI b)] J (fun r J' => r = bz (gz (J 77 5) t b = 0) ∧ J' = J) := by
  refine gx_mi hG (by decide) (Nat.le_of_ble_eq_true rfl) (fun X hla B Rt => ?_)
  subst hla
  have B : gx_B G X RX6 cX6_goesOut 3 rmX6_goesOut 91 := B
  show gx_WG G X 3 (zh J) 0 [(0, .ref (gx_ad G 76)), (1, .int (zI t)), (2, .int (zI b))] []
  refine gx_iload_n B dX6_goesOut_0 rfl rfl ?_
  refine gx_aload_n B dX6_goesOut_1 rfl rfl ?_
  refine gx_getr (t := 77) B fl_X6_7 rfl (by decide) rfl dX6_goesOut_2 ?_
  refine z_iconst B dX6_goesOut_5 ?_
  refine z_iald 5 B rfl (by decide) rfl (by decide) (by decide) dX6_goesOut_6 ?_
  refine z_iconst B dX6_goesOut_7 ?_
  refine z_isub B dX6_goesOut_8 ?_
  refine gx_iload_n B dX6_goesOut_9 rfl rfl ?_
  refine z_isub B dX6_goesOut_10 ?_
  refine z_ishr B dX6_goesOut_11 ?_
  refine z_iconst B dX6_goesOut_12 ?_
  refine z_iand B dX6_goesOut_13 ?_
  refine z_if_ne (tgt := 21) B dX6_goesOut_14 (zandB _ _) (by decide) (fun c14 => ?_) (fun c14 => ?_)
  · refine z_iconst B dX6_goesOut_21 ?_
    refine z_iretz B Rt dX6_goesOut_22 (by decide) ?_
    exact ⟨by first | exact (bz_1.mpr c14).symm | exact (bz_0.mpr c14).symm, rfl⟩
  · refine z_iconst B dX6_goesOut_17 ?_
    refine gx_goto (tgt := 22) B dX6_goesOut_18 (by decide) ?_
    refine z_iretz B Rt dX6_goesOut_22 (by decide) ?_
    exact ⟨by first | exact (bz_1.mpr c14).symm | exact (bz_0.mpr c14).symm, rfl⟩


def kpA (J : zJ) (i : Nat) : zJ := fun x k => if x = 76 ∧ k = 2 then 1 else if x = 79 ∧ k < i then J 77 k else J x k
def kpB (J : zJ) (i : Nat) : zJ := fun x k => if x = 76 ∧ k = 2 then 1 else if x = 79 ∧ k < 6 then J 77 k else if x = 79 ∧ 6 ≤ k ∧ k < 6 + i then J 78 (k - 6) else J x k
def bkA (J : zJ) (i : Nat) : zJ := fun x k => if x = 77 ∧ k < i then J 79 k else J x k
def bkB (J : zJ) (i : Nat) : zJ := fun x k => if x = 77 ∧ k < 6 then J 79 k else if x = 78 ∧ k < i then J 79 (6 + k) else J x k
theorem kpA_step {J : zJ} {i : Nat} : zup (kpA J i) 79 i (kpA J i 77 i) = kpA J (i + 1) := by
  funext x k
  unfold zup kpA
  by_cases h : x = 79 ∧ k = i
  · obtain ⟨rfl, rfl⟩ := h; simp
  · rw [if_neg h]
    by_cases h1 : x = 76 ∧ k = 2
    · rw [if_pos h1, if_pos h1]
    · rw [if_neg h1, if_neg h1]
      by_cases h2 : x = 79 ∧ k < i
      · rw [if_pos h2, if_pos (by omega)]
      · rw [if_neg h2, if_neg (by omega)]
theorem kpB_step {J : zJ} {i : Nat} : zup (kpB J i) 79 (6 + i) (kpB J i 78 i) = kpB J (i + 1) := by
  funext x k
  unfold zup kpB
  by_cases h : x = 79 ∧ k = 6 + i
  · obtain ⟨rfl, rfl⟩ := h
    simp
    intro h9
    omega
  · rw [if_neg h]
    by_cases h1 : x = 76 ∧ k = 2
    · rw [if_pos h1, if_pos h1]
    · rw [if_neg h1, if_neg h1]
      by_cases h2 : x = 79 ∧ k < 6
      · rw [if_pos h2, if_pos h2]
      · rw [if_neg h2, if_neg h2]
        by_cases h3 : x = 79 ∧ 6 ≤ k ∧ k < 6 + i
        · rw [if_pos h3, if_pos (by omega)]
        · rw [if_neg h3, if_neg (by omega)]
theorem kp_mid (J : zJ) : kpA J 6 = kpB J 0 := by
  funext x k
  unfold kpA kpB
  by_cases h1 : x = 76 ∧ k = 2
  · rw [if_pos h1, if_pos h1]
  · rw [if_neg h1, if_neg h1]
    by_cases h2 : x = 79 ∧ k < 6
    · rw [if_pos h2, if_pos h2]
    · rw [if_neg h2, if_neg h2, if_neg (by omega)]
theorem bkA_step {J : zJ} {i : Nat} : zup (bkA J i) 77 i (bkA J i 79 i) = bkA J (i + 1) := by
  funext x k
  unfold zup bkA
  by_cases h : x = 77 ∧ k = i
  · obtain ⟨rfl, rfl⟩ := h; simp
  · rw [if_neg h]
    by_cases h2 : x = 77 ∧ k < i
    · rw [if_pos h2, if_pos (by omega)]
    · rw [if_neg h2, if_neg (by omega)]
theorem bkB_step {J : zJ} {i : Nat} : zup (bkB J i) 78 i (bkB J i 79 (6 + i)) = bkB J (i + 1) := by
  funext x k
  unfold zup bkB
  by_cases h : x = 78 ∧ k = i
  · obtain ⟨rfl, rfl⟩ := h; simp
  · rw [if_neg h]
    by_cases h1 : x = 77 ∧ k < 6
    · rw [if_pos h1, if_pos h1]
    · rw [if_neg h1, if_neg h1]
      by_cases h2 : x = 78 ∧ k < i
      · rw [if_pos h2, if_pos (by omega)]
      · rw [if_neg h2, if_neg (by omega)]
theorem bk_mid (J : zJ) : bkA J 6 = bkB J 0 := by
  funext x k
  unfold bkA bkB
  by_cases h1 : x = 77 ∧ k < 6
  · rw [if_pos h1, if_pos h1]
  · rw [if_neg h1, if_neg h1, if_neg (by omega)]

theorem lpKpB {G : gx_G} {X : gx_X} (hG : gx_OK G 91) (B : gx_B G X RX6 cX6_keep 2 rmX6_keep 91) {J : zJ} {post : Int → zJ → Prop} (Rt : gx_Ri G X .int (zpi post)) (hp : post 1 (kpB J 32)) : ∀ i : Nat, i ≤ 32 → gx_WG G X 2 (zh (kpB J i)) 33 [(0, .ref (gx_ad G 76)), (1, .int (zI (i : Int)))] [] := by
  refine up_ind (fun i hi ih => ?_)
  refine gx_iload_n B dX6_keep_33 rfl rfl ?_
  refine z_bipush B dX6_keep_34 (by decide) ?_
  refine z_icmp_ge (tgt := 60) B dX6_keep_36 ⟨by omega, by omega⟩ ⟨by omega, by omega⟩ (by decide) (fun c36_1 => ?_) (fun c36_1 => ?_)
  · refine z_iconst B dX6_keep_60 ?_
    refine z_ireti B Rt dX6_keep_61 ?_
    obtain rfl : i = 32 := by omega
    exact hp
  · refine gx_aload_n B dX6_keep_39 rfl rfl ?_
    refine gx_getr (t := 79) B fl_X6_16 rfl (by decide) rfl dX6_keep_40 ?_
    refine z_bipush B dX6_keep_43 (by decide) ?_
    refine gx_iload_n B dX6_keep_45 rfl rfl ?_
    refine z_iadd B dX6_keep_46 ?_
    refine gx_aload_n B dX6_keep_47 rfl rfl ?_
    refine gx_getr (t := 78) B fl_X6_13 rfl (by decide) rfl dX6_keep_48 ?_
    refine gx_iload_n B dX6_keep_51 rfl rfl ?_
    refine z_iald i B rfl (by decide) rfl (show i < 32 by omega) (by decide) dX6_keep_52 ?_
    refine z_iast (6 + i) B rfl (by decide) (by omega) (show 6 + i < 38 by omega) (by decide) dX6_keep_53 (fun J1 hJ1 => ?_)
    refine z_iinc (fun v9 => [(0, .ref (gx_ad G 76)), (1, .int (zI v9))]) B dX6_keep_54 rfl (by decide) rfl (fun _ => rfl) (fun v1 hv1 => ?_)
    rw [show v1 = ((i + 1 : Nat) : Int) from (by omega)]
    refine gx_goto (tgt := 33) B dX6_keep_57 (by decide) ?_
    rw [hJ1, kpB_step]
    exact ih (by omega)

theorem lpKpA {G : gx_G} {X : gx_X} (hG : gx_OK G 91) (B : gx_B G X RX6 cX6_keep 2 rmX6_keep 91) {J : zJ} {post : Int → zJ → Prop} (Rt : gx_Ri G X .int (zpi post)) (hp : post 1 (kpB J 32)) : ∀ i : Nat, i ≤ 6 → gx_WG G X 2 (zh (kpA J i)) 7 [(0, .ref (gx_ad G 76)), (1, .int (zI (i : Int)))] [] := by
  refine up_ind (fun i hi ih => ?_)
  refine gx_iload_n B dX6_keep_7 rfl rfl ?_
  refine z_bipush B dX6_keep_8 (by decide) ?_
  refine z_icmp_ge (tgt := 31) B dX6_keep_10 ⟨by omega, by omega⟩ ⟨by omega, by omega⟩ (by decide) (fun c10_1 => ?_) (fun c10_1 => ?_)
  · refine z_iconst B dX6_keep_31 ?_
    refine z_istore_n (fun v9 => [(0, .ref (gx_ad G 76)), (1, .int (zI v9))]) B dX6_keep_32 rfl (by decide) rfl (fun _ => rfl) (fun v1 hv1 => ?_)
    rw [show v1 = ((0 : Nat) : Int) from (by omega)]
    obtain rfl : i = 6 := by omega
    rw [kp_mid]
    exact lpKpB hG B Rt hp 0 (by omega)
  · refine gx_aload_n B dX6_keep_13 rfl rfl ?_
    refine gx_getr (t := 79) B fl_X6_16 rfl (by decide) rfl dX6_keep_14 ?_
    refine gx_iload_n B dX6_keep_17 rfl rfl ?_
    refine gx_aload_n B dX6_keep_18 rfl rfl ?_
    refine gx_getr (t := 77) B fl_X6_7 rfl (by decide) rfl dX6_keep_19 ?_
    refine gx_iload_n B dX6_keep_22 rfl rfl ?_
    refine z_iald i B rfl (by decide) rfl (show i < 6 by omega) (by decide) dX6_keep_23 ?_
    refine z_iast i B rfl (by decide) rfl (show i < 38 by omega) (by decide) dX6_keep_24 (fun J1 hJ1 => ?_)
    refine z_iinc (fun v9 => [(0, .ref (gx_ad G 76)), (1, .int (zI v9))]) B dX6_keep_25 rfl (by decide) rfl (fun _ => rfl) (fun v1 hv1 => ?_)
    rw [show v1 = ((i + 1 : Nat) : Int) from (by omega)]
    refine gx_goto (tgt := 7) B dX6_keep_28 (by decide) ?_
    rw [hJ1, kpA_step]
    exact ih (by omega)

theorem mX6_keep {l : Launch} {G : gx_G} (hG : gx_OK G 91) (J : zJ) : zMi l G yX6_keep cX6_keep 2 .int rmX6_keep [.ref (gx_ad G 76)] J (fun r J' => r = 1 ∧ J' = kpB J 32) := by
  refine gx_mi hG (by decide) (Nat.le_of_ble_eq_true rfl) (fun X hla B Rt => ?_)
  subst hla
  have B : gx_B G X RX6 cX6_keep 2 rmX6_keep 91 := B
  show gx_WG G X 2 (zh J) 0 [(0, .ref (gx_ad G 76))] []
  refine gx_aload_n B dX6_keep_0 rfl rfl ?_
  refine z_iconst B dX6_keep_1 ?_
  refine z_putz B fw_X6_158 rfl (by decide) rfl (by decide) dX6_keep_2 (fun J1 hJ1 => ?_)
  refine z_iconst B dX6_keep_5 ?_
  refine z_istore_n (fun v9 => [(0, .ref (gx_ad G 76)), (1, .int (zI v9))]) B dX6_keep_6 rfl (by decide) rfl (fun _ => rfl) (fun v1 hv1 => ?_)
  rw [show v1 = ((0 : Nat) : Int) from (by omega)]
  have e : J1 = kpA J 0 := by
    rw [hJ1]
    funext x k
    unfold zup kpA
    by_cases h1 : x = 76 ∧ k = 2
    · rw [if_pos h1, if_pos h1]
    · rw [if_neg h1, if_neg h1, if_neg (by omega)]
  rw [e]
  exact lpKpA hG B Rt ⟨rfl, rfl⟩ 0 (by omega)

theorem lpBkB {G : gx_G} {X : gx_X} (hG : gx_OK G 91) (B : gx_B G X RX6 cX6_back 2 rmX6_back 91) {J : zJ} {post : Int → zJ → Prop} (Rt : gx_Ri G X .int (zpi post)) (hp : post 1 (bkB J 32)) : ∀ i : Nat, i ≤ 32 → gx_WG G X 2 (zh (bkB J i)) 38 [(0, .ref (gx_ad G 76)), (1, .int (zI (i : Int)))] [] := by
  refine up_ind (fun i hi ih => ?_)
  refine gx_iload_n B dX6_back_38 rfl rfl ?_
  refine z_bipush B dX6_back_39 (by decide) ?_
  refine z_icmp_ge (tgt := 65) B dX6_back_41 ⟨by omega, by omega⟩ ⟨by omega, by omega⟩ (by decide) (fun c41_1 => ?_) (fun c41_1 => ?_)
  · refine z_iconst B dX6_back_65 ?_
    refine z_ireti B Rt dX6_back_66 ?_
    obtain rfl : i = 32 := by omega
    exact hp
  · refine gx_aload_n B dX6_back_44 rfl rfl ?_
    refine gx_getr (t := 78) B fl_X6_13 rfl (by decide) rfl dX6_back_45 ?_
    refine gx_iload_n B dX6_back_48 rfl rfl ?_
    refine gx_aload_n B dX6_back_49 rfl rfl ?_
    refine gx_getr (t := 79) B fl_X6_16 rfl (by decide) rfl dX6_back_50 ?_
    refine z_bipush B dX6_back_53 (by decide) ?_
    refine gx_iload_n B dX6_back_55 rfl rfl ?_
    refine z_iadd B dX6_back_56 ?_
    refine z_iald (6 + i) B rfl (by decide) (by omega) (show 6 + i < 38 by omega) (by decide) dX6_back_57 ?_
    refine z_iast i B rfl (by decide) rfl (show i < 32 by omega) (by decide) dX6_back_58 (fun J1 hJ1 => ?_)
    refine z_iinc (fun v9 => [(0, .ref (gx_ad G 76)), (1, .int (zI v9))]) B dX6_back_59 rfl (by decide) rfl (fun _ => rfl) (fun v1 hv1 => ?_)
    rw [show v1 = ((i + 1 : Nat) : Int) from (by omega)]
    refine gx_goto (tgt := 38) B dX6_back_62 (by decide) ?_
    rw [hJ1, bkB_step]
    exact ih (by omega)

theorem lpBkA {G : gx_G} {X : gx_X} (hG : gx_OK G 91) (B : gx_B G X RX6 cX6_back 2 rmX6_back 91) {J : zJ} {post : Int → zJ → Prop} (Rt : gx_Ri G X .int (zpi post)) (hp : post 1 (bkB J 32)) : ∀ i : Nat, i ≤ 6 → gx_WG G X 2 (zh (bkA J i)) 12 [(0, .ref (gx_ad G 76)), (1, .int (zI (i : Int)))] [] := by
  refine up_ind (fun i hi ih => ?_)
  refine gx_iload_n B dX6_back_12 rfl rfl ?_
  refine z_bipush B dX6_back_13 (by decide) ?_
  refine z_icmp_ge (tgt := 36) B dX6_back_15 ⟨by omega, by omega⟩ ⟨by omega, by omega⟩ (by decide) (fun c15_1 => ?_) (fun c15_1 => ?_)
  · refine z_iconst B dX6_back_36 ?_
    refine z_istore_n (fun v9 => [(0, .ref (gx_ad G 76)), (1, .int (zI v9))]) B dX6_back_37 rfl (by decide) rfl (fun _ => rfl) (fun v1 hv1 => ?_)
    rw [show v1 = ((0 : Nat) : Int) from (by omega)]
    obtain rfl : i = 6 := by omega
    rw [bk_mid]
    exact lpBkB hG B Rt hp 0 (by omega)
  · refine gx_aload_n B dX6_back_18 rfl rfl ?_
    refine gx_getr (t := 77) B fl_X6_7 rfl (by decide) rfl dX6_back_19 ?_
    refine gx_iload_n B dX6_back_22 rfl rfl ?_
    refine gx_aload_n B dX6_back_23 rfl rfl ?_
    refine gx_getr (t := 79) B fl_X6_16 rfl (by decide) rfl dX6_back_24 ?_
    refine gx_iload_n B dX6_back_27 rfl rfl ?_
    refine z_iald i B rfl (by decide) rfl (show i < 38 by omega) (by decide) dX6_back_28 ?_
    refine z_iast i B rfl (by decide) rfl (show i < 6 by omega) (by decide) dX6_back_29 (fun J1 hJ1 => ?_)
    refine z_iinc (fun v9 => [(0, .ref (gx_ad G 76)), (1, .int (zI v9))]) B dX6_back_30 rfl (by decide) rfl (fun _ => rfl) (fun v1 hv1 => ?_)
    rw [show v1 = ((i + 1 : Nat) : Int) from (by omega)]
    refine gx_goto (tgt := 12) B dX6_back_33 (by decide) ?_
    rw [hJ1, bkA_step]
    exact ih (by omega)

theorem mX6_back {l : Launch} {G : gx_G} (hG : gx_OK G 91) (J : zJ) (hk : J 76 2 = 0 ∨ J 76 2 = 1) : zMi l G yX6_back cX6_back 2 .int rmX6_back [.ref (gx_ad G 76)] J (fun r J' => (J 76 2 = 1 ∧ r = 1 ∧ J' = bkB J 32) ∨ (J 76 2 = 0 ∧ r = -3 ∧ J' = J)) := by
  refine gx_mi hG (by decide) (Nat.le_of_ble_eq_true rfl) (fun X hla B Rt => ?_)
  subst hla
  have B : gx_B G X RX6 cX6_back 2 rmX6_back 91 := B
  show gx_WG G X 2 (zh J) 0 [(0, .ref (gx_ad G 76))] []
  refine gx_aload_n B dX6_back_0 rfl rfl ?_
  refine z_geti B fl_X6_158 rfl (by decide) rfl dX6_back_1 ?_
  refine z_if_ne (tgt := 10) B dX6_back_4 ⟨by omega, by omega⟩ (by decide) (fun c4 => ?_) (fun c4 => ?_)
  · refine z_iconst B dX6_back_10 ?_
    refine z_istore_n (fun v9 => [(0, .ref (gx_ad G 76)), (1, .int (zI v9))]) B dX6_back_11 rfl (by decide) rfl (fun _ => rfl) (fun v1 hv1 => ?_)
    rw [show v1 = ((0 : Nat) : Int) from (by omega)]
    have e : J = bkA J 0 := by
      funext x k
      unfold bkA
      rw [if_neg (by omega)]
    have h9 := lpBkA hG B (J := J) Rt (Or.inl ⟨by omega, rfl, rfl⟩) 0 (by omega)
    rw [← e] at h9
    exact h9
  · refine z_bipush B dX6_back_7 (by decide) ?_
    refine z_ireti B Rt dX6_back_9 ?_
    exact Or.inr ⟨c4, rfl, rfl⟩

