
def Cinv (J : zJ) (n : Nat) : Prop := VD J 1 n ∧ Settled J n ∧ (J 0 2 = 0 ∨ J 0 2 = 1 ∧ ∃ m, VD J 6 m)
abbrev Core (J J' : zJ) : Prop := ∀ x k, x ≤ 10 ∨ 76 ≤ x → J' x k = J x k
theorem Cinv.of {J J1 J2 : zJ} {n m : Nat} (h : Cinv J n) (hV : VD J1 1 m) (hS : Settled J2 m) (fr : ∀ x k, ¬ (11 ≤ x ∧ x ≤ 44) → J2 x k = J1 x k) (h1 : ∀ x k, x = 0 ∨ 6 ≤ x ∧ x ≤ 10 → J1 x k = J x k) : Cinv J2 m := by
  refine ⟨hV.keep (fun x k a b => fr x k (by omega)), hS, ?_⟩
  rw [fr 0 2 (by omega), h1 0 2 (by omega)]
  rcases h.2.2 with q | ⟨q, p, hp⟩
  · exact Or.inl q
  · exact Or.inr ⟨q, p, hp.keep (fun x k a b => by rw [fr x k (by omega), h1 x k (by omega)])⟩
theorem zup_same {J : zJ} {a k : Nat} {v : Int} (h : J a k = v) : zup J a k v = J := by
  funext x q
  unfold zup
  split
  · rename_i e; rw [e.1, e.2, h]
  · rfl
theorem VD_wr {J : zJ} {n m b : Nat} {c l q k : Int} (h : VD J 1 n) (hm : m ≤ 8) (hmn : (m = n ∧ b < n) ∨ (m = n + 1 ∧ b = n)) (hc : 0 ≤ c ∧ c ≤ 4095) (hl : -1 ≤ l ∧ l ≤ 11) (hq : 1 ≤ q ∧ q ≤ 8) (hk : 0 ≤ k ∧ k ≤ 3) : VD (wrD (zup J 1 5 (m : Int)) 1 b c l q k) 1 m := by
  obtain ⟨h1, h2, h3, h4, h5, ⟨h6, h7, h8⟩, h9⟩ := h
  have w1 : ∀ i, i ≠ 5 → wrD (zup J 1 5 (m : Int)) 1 b c l q k 1 i = J 1 i := fun i hi => by
    unfold wrD
    rw [zup_ne (by omega), zup_ne (by omega), zup_ne (by omega), zup_ne (by omega), zup_ne (by omega)]
  have w5 : wrD (zup J 1 5 (m : Int)) 1 b c l q k 1 5 = (m : Int) := by
    unfold wrD
    rw [zup_ne (by omega), zup_ne (by omega), zup_ne (by omega), zup_ne (by omega), zup_self]
  have wn : ∀ x i, i ≠ b → 1 < x → wrD (zup J 1 5 (m : Int)) 1 b c l q k x i = J x i := fun x i hi hx => by
    unfold wrD
    rw [zup_ne (by omega), zup_ne (by omega), zup_ne (by omega), zup_ne (by omega), zup_ne (by omega)]
  have e2 : wrD (zup J 1 5 (m : Int)) 1 b c l q k (1 + 1) b = c := by unfold wrD; rw [zup_ne (by omega), zup_ne (by omega), zup_ne (by omega), zup_self]
  have e3 : wrD (zup J 1 5 (m : Int)) 1 b c l q k (1 + 2) b = l := by unfold wrD; rw [zup_ne (by omega), zup_ne (by omega), zup_self]
  have e4 : wrD (zup J 1 5 (m : Int)) 1 b c l q k (1 + 3) b = q := by unfold wrD; rw [zup_ne (by omega), zup_self]
  have e5 : wrD (zup J 1 5 (m : Int)) 1 b c l q k (1 + 4) b = k := by unfold wrD; rw [zup_self]
  refine ⟨by rw [w1 0 (by omega)]; exact h1, by rw [w1 1 (by omega)]; exact h2, by rw [w1 2 (by omega)]; exact h3, by rw [w1 3 (by omega)]; exact h4, by rw [w1 4 (by omega), w1 3 (by omega)]; exact h5, ⟨w5, hm, fun i hi => ?_⟩, fun i hi => ?_⟩
  · by_cases e : i = b
    · subst e; rw [e2, e3]; exact ⟨hc, hl⟩
    · rw [wn _ i e (by omega), wn _ i e (by omega)]; exact h8 i (by omega)
  · by_cases e : i = b
    · subst e; rw [e4, e5]; exact ⟨hq, hk⟩
    · rw [wn _ i e (by omega), wn _ i e (by omega)]; exact h9 i (by omega)
theorem wrD_ne {J : zJ} {d b x i : Nat} {c l q k : Int} (h : ¬ (d + 1 ≤ x ∧ x ≤ d + 4 ∧ i = b)) : wrD J d b c l q k x i = J x i := by
  unfold wrD
  rw [zup_ne (by omega), zup_ne (by omega), zup_ne (by omega), zup_ne (by omega)]
theorem VD_cpy {J : zJ} {d s n : Nat} (hds : d + 4 < s ∨ s + 4 < d) (h : VD J s n) : VD (cpyN J d s 8) d n := by
  have h8 := h.2.2.2.2.2.1.2.1
  have e0 : ∀ k, k < 6 → cpyN J d s 8 d k = J s k := fun k hk => by unfold cpyN; rw [if_pos ⟨rfl, hk⟩]
  have e1 : ∀ j k, 1 ≤ j → j ≤ 4 → k < 8 → cpyN J d s 8 (d + j) k = J (s + j) k := fun j k h1 h2 h3 => by unfold cpyN; rw [if_neg (by omega), if_pos (by omega), show d + j - d = j by omega]
  obtain ⟨h1, h2, h3, h4, h5, ⟨h6, h7, h9⟩, h10⟩ := h
  refine ⟨by rw [e0 0 (by omega)]; exact h1, by rw [e0 1 (by omega)]; exact h2, by rw [e0 2 (by omega)]; exact h3, by rw [e0 3 (by omega)]; exact h4, by rw [e0 4 (by omega), e0 3 (by omega)]; exact h5, ⟨by rw [e0 5 (by omega)]; exact h6, h7, fun b hb => ?_⟩, fun b hb => ?_⟩
  · rw [e1 1 b (by omega) (by omega) (by omega), e1 2 b (by omega) (by omega) (by omega)]; exact h9 b hb
  · rw [e1 3 b (by omega) (by omega) (by omega), e1 4 b (by omega) (by omega) (by omega)]; exact h10 b hb
theorem Settled.desk {J J1 : zJ} {n : Nat} (h : Settled J n) (hn : n ≤ 8) (e : ∀ x k, 14 ≤ x → J1 x k = J x k) : Lrn J1 14 (J 1 0) (J 1 1) n (J 2) (J 3) ∧ HandOK J1 14 n := ⟨h.1.keep (fun x k q => e x k (by omega)) hn, h.2.1.keep (fun x k q => e x k (by omega)) hn⟩

theorem mX5_system {l : Launch} {G : gx_G} (hG : gx_OK G 76) (J : zJ) {n : Nat} (hI : Cinv J n) {a b : Int} (ha : zB a) (hb : zB b) : zMi l G yX5_system cX5_system 3 .int rmX5_system [.ref (gx_ad G 0), .int (zI a), .int (zI b)] J (fun r J' => ((0 ≤ a ∧ a < 12 ∧ 0 ≤ b ∧ b ≤ 63) ∧ r = 1 ∧ Cinv J' n ∧ Core (zup (zup J 1 0 a) 1 1 b) J') ∨ (¬ (0 ≤ a ∧ a < 12 ∧ 0 ≤ b ∧ b ≤ 63) ∧ r = -1 ∧ J' = J)) := by
  refine gx_mi hG (by decide) (Nat.le_of_ble_eq_true rfl) (fun X hla B Rt => ?_)
  subst hla
  have B : gx_B G X RX5 cX5_system 3 rmX5_system 76 := B
  show gx_WG G X 3 (zh J) 0 [(0, .ref (gx_ad G 0)), (1, .int (zI a)), (2, .int (zI b))] []
  have h8 := hI.1.2.2.2.2.2.1.2.1
  have h5 := hI.1.2.2.2.2.2.1.1
  obtain ⟨v1, v2, v3, v4, v5, v6, v7⟩ := id hI.1
  refine gx_iload_n B dX5_system_0 rfl rfl ?_
  refine gx_iload_n B dX5_system_1 rfl rfl ?_
  refine z_callSi [.int (zI a), .int (zI b)] B ls_X5_40 (mX5_isSystem hG J ha hb) rfl rfl (Nat.le_of_ble_eq_true rfl) (by decide) (by decide) dX5_system_2 (fun r2 J1 hJ1 => ?_)
  rw [show r2 = bz (0 ≤ a ∧ a < 12 ∧ 0 ≤ b ∧ b ≤ 63) from hJ1.1, hJ1.2]
  refine z_if_ne (tgt := 10) B dX5_system_5 (bzB _) (by decide) (fun c5 => ?_) (fun c5 => ?_)
  · rw [bz_n0] at c5
    refine gx_aload_n B dX5_system_10 rfl rfl ?_
    refine gx_getr (t := 1) B fl_X5_10 rfl (by decide) rfl dX5_system_11 ?_
    refine gx_iload_n B dX5_system_14 rfl rfl ?_
    refine z_puti B fw_X5_44 (kDesk pD1) (bDesk pD1) (zDesk0 pD1) dX5_system_15 (fun J1 hJ1 => ?_)
    refine gx_aload_n B dX5_system_18 rfl rfl ?_
    refine gx_getr (t := 1) B fl_X5_10 rfl (by decide) rfl dX5_system_19 ?_
    refine gx_iload_n B dX5_system_22 rfl rfl ?_
    refine z_puti B fw_X5_48 (kDesk pD1) (bDesk pD1) (zDesk1 pD1) dX5_system_23 (fun J2 hJ2 => ?_)
    have fr2 : ∀ x k, x ≠ 1 → J2 x k = J x k := fun x k h => by rw [hJ2, zup_ne (by omega), hJ1, zup_ne (by omega)]
    have hV2 : VD J2 1 n := by
      have e : ∀ k, 2 ≤ k → J2 1 k = J 1 k := fun k h => by rw [hJ2, zup_ne (by omega), hJ1, zup_ne (by omega)]
      have e0 : J2 1 0 = a := by rw [hJ2, zup_ne (by omega), hJ1, zup_self]
      have e1 : J2 1 1 = b := by rw [hJ2, zup_self]
      refine ⟨by rw [e0]; omega, by rw [e1]; omega, by rw [e 2 (by omega)]; exact v3, by rw [e 3 (by omega)]; exact v4, by rw [e 4 (by omega), e 3 (by omega)]; exact v5, ⟨by rw [e 5 (by omega)]; exact h5, h8, fun i hi => ?_⟩, fun i hi => ?_⟩
      · rw [fr2 _ _ (by omega), fr2 _ _ (by omega)]; exact v6.2.2 i hi
      · rw [fr2 _ _ (by omega), fr2 _ _ (by omega)]; exact v7 i hi
    refine gx_aload_n B dX5_system_26 rfl rfl ?_
    refine gx_getr (t := 14) B fl_X5_26 rfl (by decide) rfl dX5_system_27 ?_
    refine gx_iload_n B dX5_system_30 rfl rfl ?_
    refine gx_iload_n B dX5_system_31 rfl rfl ?_
    refine gx_aload_n B dX5_system_32 rfl rfl ?_
    refine gx_getr (t := 1) B fl_X5_10 rfl (by decide) rfl dX5_system_33 ?_
    refine z_callVv [.int (zI a), .int (zI b), .ref (gx_ad G 1)] B lv_X5_51 (mX4_learn hG pH0 pD1 J2 (n := n) (base := a) (rows := b) c5.1 c5.2.1 hV2.2.2.2.2.2.1) (kHand pH0) (bHand pH0) rfl rfl (Nat.le_of_ble_eq_true rfl) (by decide) (by decide) dX5_system_36 (fun J3 hJ3 => ?_)
    have fr3 : ∀ x k, ¬ (14 ≤ x ∧ x ≤ 44) → J3 x k = J2 x k := fun x k h => hJ3.2 x k (by omega) (by omega)
    have hL3 : Lrn J3 14 (J3 1 0) (J3 1 1) n (J3 2) (J3 3) := by
      rw [fr3 1 0 (by omega), fr3 1 1 (by omega), show J3 2 = J2 2 from funext fun k => fr3 2 k (by omega), show J3 3 = J2 3 from funext fun k => fr3 3 k (by omega)]
      have e0 : J2 1 0 = a := by rw [hJ2, zup_ne (by omega), hJ1, zup_self]
      have e1 : J2 1 1 = b := by rw [hJ2, zup_self]
      rw [e0, e1]; exact hJ3.1
    refine gx_aload_n B dX5_system_39 rfl rfl ?_
    refine z_callVv [] B lv_X5_55 (mX5_settleHand hG J3 (n := n) (hV2.keep (fun x k h1 h2 => fr3 x k (by omega))) hL3) rfl (by decide) rfl rfl (Nat.le_of_ble_eq_true rfl) (by decide) (by decide) dX5_system_40 (fun J4 hJ4 => ?_)
    refine z_iconst B dX5_system_43 ?_
    refine z_ireti B Rt dX5_system_44 ?_
    have fr4 : ∀ x k, ¬ (11 ≤ x ∧ x ≤ 44) → J4 x k = J2 x k := fun x k h => by rw [hJ4.2 x k h, fr3 x k (by omega)]
    refine Or.inl ⟨c5, rfl, hI.of hV2 hJ4.1 fr4 (fun x k h => fr2 x k (by omega)), fun x k h => ?_⟩
    rw [fr4 x k (by omega), hJ2, hJ1]
  · rw [bz_0] at c5
    refine z_iconst B dX5_system_8 ?_
    refine z_ireti B Rt dX5_system_9 ?_
    exact Or.inr ⟨c5, rfl, rfl⟩

theorem mX5_setRegister {l : Launch} {G : gx_G} (hG : gx_OK G 76) (J : zJ) {n : Nat} (hI : Cinv J n) {v : Int} (hv : zB v) : zMi l G yX5_setRegister cX5_setRegister 3 .int rmX5_setRegister [.ref (gx_ad G 0), .int (zI v)] J (fun r J' => ((1 ≤ v ∧ v ≤ 3) ∧ r = J 1 2 ∧ Cinv J' n ∧ Core (zup J 1 2 v) J') ∨ (¬ (1 ≤ v ∧ v ≤ 3) ∧ r = -1 ∧ J' = J)) := by
  refine gx_mi hG (by decide) (Nat.le_of_ble_eq_true rfl) (fun X hla B Rt => ?_)
  subst hla
  have B : gx_B G X RX5 cX5_setRegister 3 rmX5_setRegister 76 := B
  show gx_WG G X 3 (zh J) 0 [(0, .ref (gx_ad G 0)), (1, .int (zI v))] []
  have h8 := hI.1.2.2.2.2.2.1.2.1
  have h5 := hI.1.2.2.2.2.2.1.1
  obtain ⟨v1, v2, v3, v4, v5, v6, v7⟩ := id hI.1
  refine gx_iload_n B dX5_setRegister_0 rfl rfl ?_
  refine z_iconst B dX5_setRegister_1 ?_
  refine z_icmp_lt (tgt := 10) B dX5_setRegister_2 ⟨by omega, by omega⟩ ⟨by omega, by omega⟩ (by decide) (fun c2_1 => ?_) (fun c2_1 => ?_)
  · refine z_iconst B dX5_setRegister_10 ?_
    refine z_ireti B Rt dX5_setRegister_11 ?_
    exact Or.inr ⟨by omega, rfl, rfl⟩
  · refine gx_iload_n B dX5_setRegister_5 rfl rfl ?_
    refine z_iconst B dX5_setRegister_6 ?_
    refine z_icmp_le (tgt := 12) B dX5_setRegister_7 ⟨by omega, by omega⟩ ⟨by omega, by omega⟩ (by decide) (fun c7_2 => ?_) (fun c7_2 => ?_)
    · refine gx_aload_n B dX5_setRegister_12 rfl rfl ?_
      refine gx_getr (t := 1) B fl_X5_10 rfl (by decide) rfl dX5_setRegister_13 ?_
      refine z_geti B fl_X5_196 (kDesk pD1) (bDesk pD1) (zDesk2 pD1) dX5_setRegister_16 ?_
      refine z_istore_n (fun v9 => [(0, .ref (gx_ad G 0)), (1, .int (zI v)), (2, .int (zI v9))]) B dX5_setRegister_19 rfl (by decide) rfl (fun _ => rfl) (fun v9 hv9 => ?_)
      rw [hv9]
      refine gx_aload_n B dX5_setRegister_20 rfl rfl ?_
      refine gx_getr (t := 1) B fl_X5_10 rfl (by decide) rfl dX5_setRegister_21 ?_
      refine gx_iload_n B dX5_setRegister_24 rfl rfl ?_
      refine z_puti B fw_X5_196 (kDesk pD1) (bDesk pD1) (zDesk2 pD1) dX5_setRegister_25 (fun J1 hJ1 => ?_)
      have fr1 : ∀ x q, ¬ (x = 1 ∧ q = 2) → J1 x q = J x q := fun x q h => by rw [hJ1, zup_ne h]
      have e1 : J1 1 2 = v := by rw [hJ1, zup_self]
      have hV1 : VD J1 1 n := by
        refine ⟨?_, ?_, ?_, ?_, ?_, ⟨by rw [fr1 1 5 (by omega)]; exact h5, h8, fun i hi => ?_⟩, fun i hi => ?_⟩
        · rw [fr1 1 0 (by omega)]; omega
        · rw [fr1 1 1 (by omega)]; omega
        · rw [e1]; omega
        · rw [fr1 1 3 (by omega)]; omega
        · rw [fr1 1 4 (by omega), fr1 1 3 (by omega)]; omega
        · rw [fr1 _ _ (by omega), fr1 _ _ (by omega)]; exact v6.2.2 i hi
        · rw [fr1 _ _ (by omega), fr1 _ _ (by omega)]; exact v7 i hi
      have hS1 := hI.2.1.desk h8 (J1 := J1) (fun x q h => fr1 x q (by omega))
      have hL1 : Lrn J1 14 (J1 1 0) (J1 1 1) n (J1 2) (J1 3) := by
        rw [fr1 1 0 (by omega), fr1 1 1 (by omega), show J1 2 = J 2 from funext fun q => fr1 2 q (by omega), show J1 3 = J 3 from funext fun q => fr1 3 q (by omega)]
        exact hS1.1
      refine gx_aload_n B dX5_setRegister_28 rfl rfl ?_
      refine z_callVv [] B lv_X5_199 (mX5_settleBellows hG J1 (n := n) hV1 hL1 hS1.2) rfl (by decide) rfl rfl (Nat.le_of_ble_eq_true rfl) (by decide) (by decide) dX5_setRegister_29 (fun J2 hJ2 => ?_)
      refine gx_iload_n B dX5_setRegister_32 rfl rfl ?_
      refine z_ireti B Rt dX5_setRegister_33 ?_
      refine Or.inl ⟨by omega, rfl, hI.of hV1 hJ2.1 (fun x q h => hJ2.2 x q (by omega)) (fun x q h => fr1 x q (by omega)), fun x q h => ?_⟩
      rw [hJ2.2 x q (by omega), hJ1]
    · refine z_iconst B dX5_setRegister_10 ?_
      refine z_ireti B Rt dX5_setRegister_11 ?_
      exact Or.inr ⟨by omega, rfl, rfl⟩

theorem mX5_setRoom {l : Launch} {G : gx_G} (hG : gx_OK G 76) (J : zJ) {n : Nat} (hI : Cinv J n) {v : Int} (hv : zB v) : zMi l G yX5_setRoom cX5_setRoom 3 .int rmX5_setRoom [.ref (gx_ad G 0), .int (zI v)] J (fun r J' => ((1 ≤ v ∧ v ≤ 400 ∧ J 1 4 ≤ v) ∧ r = J 1 3 ∧ Cinv J' n ∧ Core (zup J 1 3 v) J') ∨ (¬ (1 ≤ v ∧ v ≤ 400 ∧ J 1 4 ≤ v) ∧ r = -1 ∧ J' = J)) := by
  refine gx_mi hG (by decide) (Nat.le_of_ble_eq_true rfl) (fun X hla B Rt => ?_)
  subst hla
  have B : gx_B G X RX5 cX5_setRoom 3 rmX5_setRoom 76 := B
  show gx_WG G X 3 (zh J) 0 [(0, .ref (gx_ad G 0)), (1, .int (zI v))] []
  have h8 := hI.1.2.2.2.2.2.1.2.1
  have h5 := hI.1.2.2.2.2.2.1.1
  obtain ⟨v1, v2, v3, v4, v5, v6, v7⟩ := id hI.1
  refine gx_iload_n B dX5_setRoom_0 rfl rfl ?_
  refine z_iconst B dX5_setRoom_1 ?_
  refine z_icmp_lt (tgt := 23) B dX5_setRoom_2 ⟨by omega, by omega⟩ ⟨by omega, by omega⟩ (by decide) (fun c2_1 => ?_) (fun c2_1 => ?_)
  · refine z_iconst B dX5_setRoom_23 ?_
    refine z_ireti B Rt dX5_setRoom_24 ?_
    exact Or.inr ⟨by omega, rfl, rfl⟩
  · refine gx_iload_n B dX5_setRoom_5 rfl rfl ?_
    refine z_sipush B dX5_setRoom_6 (by decide) ?_
    refine z_icmp_gt (tgt := 23) B dX5_setRoom_9 ⟨by omega, by omega⟩ ⟨by omega, by omega⟩ (by decide) (fun c9_2 => ?_) (fun c9_2 => ?_)
    · refine z_iconst B dX5_setRoom_23 ?_
      refine z_ireti B Rt dX5_setRoom_24 ?_
      exact Or.inr ⟨by omega, rfl, rfl⟩
    · refine gx_iload_n B dX5_setRoom_12 rfl rfl ?_
      refine gx_aload_n B dX5_setRoom_13 rfl rfl ?_
      refine gx_getr (t := 1) B fl_X5_10 rfl (by decide) rfl dX5_setRoom_14 ?_
      refine z_geti B fl_X5_163 (kDesk pD1) (bDesk pD1) (zDesk4 pD1) dX5_setRoom_17 ?_
      refine z_icmp_ge (tgt := 25) B dX5_setRoom_20 ⟨by omega, by omega⟩ ⟨by omega, by omega⟩ (by decide) (fun c20_3 => ?_) (fun c20_3 => ?_)
      · refine gx_aload_n B dX5_setRoom_25 rfl rfl ?_
        refine gx_getr (t := 1) B fl_X5_10 rfl (by decide) rfl dX5_setRoom_26 ?_
        refine z_geti B fl_X5_202 (kDesk pD1) (bDesk pD1) (zDesk3 pD1) dX5_setRoom_29 ?_
        refine z_istore_n (fun v9 => [(0, .ref (gx_ad G 0)), (1, .int (zI v)), (2, .int (zI v9))]) B dX5_setRoom_32 rfl (by decide) rfl (fun _ => rfl) (fun v9 hv9 => ?_)
        rw [hv9]
        refine gx_aload_n B dX5_setRoom_33 rfl rfl ?_
        refine gx_getr (t := 1) B fl_X5_10 rfl (by decide) rfl dX5_setRoom_34 ?_
        refine gx_iload_n B dX5_setRoom_37 rfl rfl ?_
        refine z_puti B fw_X5_202 (kDesk pD1) (bDesk pD1) (zDesk3 pD1) dX5_setRoom_38 (fun J1 hJ1 => ?_)
        have fr1 : ∀ x q, ¬ (x = 1 ∧ q = 3) → J1 x q = J x q := fun x q h => by rw [hJ1, zup_ne h]
        have e1 : J1 1 3 = v := by rw [hJ1, zup_self]
        have hV1 : VD J1 1 n := by
          refine ⟨?_, ?_, ?_, ?_, ?_, ⟨by rw [fr1 1 5 (by omega)]; exact h5, h8, fun i hi => ?_⟩, fun i hi => ?_⟩
          · rw [fr1 1 0 (by omega)]; omega
          · rw [fr1 1 1 (by omega)]; omega
          · rw [fr1 1 2 (by omega)]; omega
          · rw [e1]; omega
          · rw [fr1 1 4 (by omega), e1]; omega
          · rw [fr1 _ _ (by omega), fr1 _ _ (by omega)]; exact v6.2.2 i hi
          · rw [fr1 _ _ (by omega), fr1 _ _ (by omega)]; exact v7 i hi
        have hS1 := hI.2.1.desk h8 (J1 := J1) (fun x q h => fr1 x q (by omega))
        have hL1 : Lrn J1 14 (J1 1 0) (J1 1 1) n (J1 2) (J1 3) := by
          rw [fr1 1 0 (by omega), fr1 1 1 (by omega), show J1 2 = J 2 from funext fun q => fr1 2 q (by omega), show J1 3 = J 3 from funext fun q => fr1 3 q (by omega)]
          exact hS1.1
        refine gx_aload_n B dX5_setRoom_41 rfl rfl ?_
        refine z_callVv [] B lv_X5_199 (mX5_settleBellows hG J1 (n := n) hV1 hL1 hS1.2) rfl (by decide) rfl rfl (Nat.le_of_ble_eq_true rfl) (by decide) (by decide) dX5_setRoom_42 (fun J2 hJ2 => ?_)
        refine gx_iload_n B dX5_setRoom_45 rfl rfl ?_
        refine z_ireti B Rt dX5_setRoom_46 ?_
        refine Or.inl ⟨by omega, rfl, hI.of hV1 hJ2.1 (fun x q h => hJ2.2 x q (by omega)) (fun x q h => fr1 x q (by omega)), fun x q h => ?_⟩
        rw [hJ2.2 x q (by omega), hJ1]
      · refine z_iconst B dX5_setRoom_23 ?_
        refine z_ireti B Rt dX5_setRoom_24 ?_
        exact Or.inr ⟨by omega, rfl, rfl⟩

theorem mX5_setStart {l : Launch} {G : gx_G} (hG : gx_OK G 76) (J : zJ) {n : Nat} (hI : Cinv J n) {v : Int} (hv : zB v) : zMi l G yX5_setStart cX5_setStart 3 .int rmX5_setStart [.ref (gx_ad G 0), .int (zI v)] J (fun r J' => ((0 ≤ v ∧ v ≤ J 1 3) ∧ r = J 1 4 ∧ Cinv J' n ∧ Core (zup J 1 4 v) J') ∨ (¬ (0 ≤ v ∧ v ≤ J 1 3) ∧ r = -1 ∧ J' = J)) := by
  refine gx_mi hG (by decide) (Nat.le_of_ble_eq_true rfl) (fun X hla B Rt => ?_)
  subst hla
  have B : gx_B G X RX5 cX5_setStart 3 rmX5_setStart 76 := B
  show gx_WG G X 3 (zh J) 0 [(0, .ref (gx_ad G 0)), (1, .int (zI v))] []
  have h8 := hI.1.2.2.2.2.2.1.2.1
  have h5 := hI.1.2.2.2.2.2.1.1
  obtain ⟨v1, v2, v3, v4, v5, v6, v7⟩ := id hI.1
  refine gx_iload_n B dX5_setStart_0 rfl rfl ?_
  refine z_if_lt (tgt := 15) B dX5_setStart_1 ⟨by omega, by omega⟩ (by decide) (fun c1_1 => ?_) (fun c1_1 => ?_)
  · refine z_iconst B dX5_setStart_15 ?_
    refine z_ireti B Rt dX5_setStart_16 ?_
    exact Or.inr ⟨by omega, rfl, rfl⟩
  · refine gx_iload_n B dX5_setStart_4 rfl rfl ?_
    refine gx_aload_n B dX5_setStart_5 rfl rfl ?_
    refine gx_getr (t := 1) B fl_X5_10 rfl (by decide) rfl dX5_setStart_6 ?_
    refine z_geti B fl_X5_202 (kDesk pD1) (bDesk pD1) (zDesk3 pD1) dX5_setStart_9 ?_
    refine z_icmp_le (tgt := 17) B dX5_setStart_12 ⟨by omega, by omega⟩ ⟨by omega, by omega⟩ (by decide) (fun c12_2 => ?_) (fun c12_2 => ?_)
    · refine gx_aload_n B dX5_setStart_17 rfl rfl ?_
      refine gx_getr (t := 1) B fl_X5_10 rfl (by decide) rfl dX5_setStart_18 ?_
      refine z_geti B fl_X5_163 (kDesk pD1) (bDesk pD1) (zDesk4 pD1) dX5_setStart_21 ?_
      refine z_istore_n (fun v9 => [(0, .ref (gx_ad G 0)), (1, .int (zI v)), (2, .int (zI v9))]) B dX5_setStart_24 rfl (by decide) rfl (fun _ => rfl) (fun v9 hv9 => ?_)
      rw [hv9]
      refine gx_aload_n B dX5_setStart_25 rfl rfl ?_
      refine gx_getr (t := 1) B fl_X5_10 rfl (by decide) rfl dX5_setStart_26 ?_
      refine gx_iload_n B dX5_setStart_29 rfl rfl ?_
      refine z_puti B fw_X5_163 (kDesk pD1) (bDesk pD1) (zDesk4 pD1) dX5_setStart_30 (fun J1 hJ1 => ?_)
      have fr1 : ∀ x q, ¬ (x = 1 ∧ q = 4) → J1 x q = J x q := fun x q h => by rw [hJ1, zup_ne h]
      have e1 : J1 1 4 = v := by rw [hJ1, zup_self]
      have hV1 : VD J1 1 n := by
        refine ⟨?_, ?_, ?_, ?_, ?_, ⟨by rw [fr1 1 5 (by omega)]; exact h5, h8, fun i hi => ?_⟩, fun i hi => ?_⟩
        · rw [fr1 1 0 (by omega)]; omega
        · rw [fr1 1 1 (by omega)]; omega
        · rw [fr1 1 2 (by omega)]; omega
        · rw [fr1 1 3 (by omega)]; omega
        · rw [fr1 1 3 (by omega), e1]; omega
        · rw [fr1 _ _ (by omega), fr1 _ _ (by omega)]; exact v6.2.2 i hi
        · rw [fr1 _ _ (by omega), fr1 _ _ (by omega)]; exact v7 i hi
      have hS1 := hI.2.1.desk h8 (J1 := J1) (fun x q h => fr1 x q (by omega))
      have hL1 : Lrn J1 14 (J1 1 0) (J1 1 1) n (J1 2) (J1 3) := by
        rw [fr1 1 0 (by omega), fr1 1 1 (by omega), show J1 2 = J 2 from funext fun q => fr1 2 q (by omega), show J1 3 = J 3 from funext fun q => fr1 3 q (by omega)]
        exact hS1.1
      refine gx_aload_n B dX5_setStart_33 rfl rfl ?_
      refine z_callVv [] B lv_X5_199 (mX5_settleBellows hG J1 (n := n) hV1 hL1 hS1.2) rfl (by decide) rfl rfl (Nat.le_of_ble_eq_true rfl) (by decide) (by decide) dX5_setStart_34 (fun J2 hJ2 => ?_)
      refine gx_iload_n B dX5_setStart_37 rfl rfl ?_
      refine z_ireti B Rt dX5_setStart_38 ?_
      refine Or.inl ⟨by omega, rfl, hI.of hV1 hJ2.1 (fun x q h => hJ2.2 x q (by omega)) (fun x q h => fr1 x q (by omega)), fun x q h => ?_⟩
      rw [hJ2.2 x q (by omega), hJ1]
    · refine z_iconst B dX5_setStart_15 ?_
      refine z_ireti B Rt dX5_setStart_16 ?_
      exact Or.inr ⟨by omega, rfl, rfl⟩

theorem mX5_rule {l : Launch} {G : gx_G} (hG : gx_OK G 76) (J : zJ) {n : Nat} (hI : Cinv J n) {w v : Int} (hw : zB w) (hv : zB v) : zMi l G yX5_rule cX5_rule 3 .int rmX5_rule [.ref (gx_ad G 0), .int (zI w), .int (zI v)] J (fun r J' => (((w = 0 ∧ 1 ≤ v ∧ v ≤ 3) ∨ (w = 1 ∧ 1 ≤ v ∧ v ≤ 400 ∧ J 1 4 ≤ v) ∨ (w = 2 ∧ 0 ≤ v ∧ v ≤ J 1 3)) ∧ r = J 1 (2 + w.toNat) ∧ Cinv J' n ∧ Core (zup J 1 (2 + w.toNat) v) J') ∨ (¬ ((w = 0 ∧ 1 ≤ v ∧ v ≤ 3) ∨ (w = 1 ∧ 1 ≤ v ∧ v ≤ 400 ∧ J 1 4 ≤ v) ∨ (w = 2 ∧ 0 ≤ v ∧ v ≤ J 1 3)) ∧ r = -1 ∧ J' = J)) := by
  refine gx_mi hG (by decide) (Nat.le_of_ble_eq_true rfl) (fun X hla B Rt => ?_)
  subst hla
  have B : gx_B G X RX5 cX5_rule 3 rmX5_rule 76 := B
  show gx_WG G X 3 (zh J) 0 [(0, .ref (gx_ad G 0)), (1, .int (zI w)), (2, .int (zI v))] []
  have h8 := hI.1.2.2.2.2.2.1.2.1
  have h5 := hI.1.2.2.2.2.2.1.1
  obtain ⟨v1, v2, v3, v4, v5, v6, v7⟩ := id hI.1
  refine gx_iload_n B dX5_rule_0 rfl rfl ?_
  by_cases sw1 : 0 ≤ w ∧ w ≤ 2
  · have sw1r : w = 0 ∨ w = 1 ∨ w = 2 := by omega
    rcases sw1r with sw1_0 | sw1_1 | sw1_2
    · refine z_swIn (off := 27) (tgt := 28) B dX5_rule_1 ⟨by omega, by omega⟩ (by omega) (by omega) (by rw [sw1_0]; decide) (by decide) ?_
      refine gx_aload_n B dX5_rule_28 rfl rfl ?_
      refine gx_iload_n B dX5_rule_29 rfl rfl ?_
      refine z_callVi [.int (zI v)] B lv_X5_72 (mX5_setRegister hG J hI hv) rfl (by decide) rfl rfl (Nat.le_of_ble_eq_true rfl) (by decide) (by decide) dX5_rule_30 (fun r3 J2 hJ2 => ?_)
      refine z_ireti B Rt dX5_rule_33 ?_
      rcases hJ2 with ⟨q1, q2, q3, q4⟩ | ⟨q1, q2, q3⟩
      · refine Or.inl ⟨by omega, ?_, q3, ?_⟩
        · rw [q2, sw1_0]; rfl
        · rw [sw1_0]; exact q4
      · exact Or.inr ⟨by omega, q2, q3⟩
    · refine z_swIn (off := 33) (tgt := 34) B dX5_rule_1 ⟨by omega, by omega⟩ (by omega) (by omega) (by rw [sw1_1]; decide) (by decide) ?_
      refine gx_aload_n B dX5_rule_34 rfl rfl ?_
      refine gx_iload_n B dX5_rule_35 rfl rfl ?_
      refine z_callVi [.int (zI v)] B lv_X5_76 (mX5_setRoom hG J hI hv) rfl (by decide) rfl rfl (Nat.le_of_ble_eq_true rfl) (by decide) (by decide) dX5_rule_36 (fun r5 J4 hJ4 => ?_)
      refine z_ireti B Rt dX5_rule_39 ?_
      rcases hJ4 with ⟨q1, q2, q3, q4⟩ | ⟨q1, q2, q3⟩
      · refine Or.inl ⟨by omega, ?_, q3, ?_⟩
        · rw [q2, sw1_1]; rfl
        · rw [sw1_1]; exact q4
      · exact Or.inr ⟨by omega, q2, q3⟩
    · refine z_swIn (off := 39) (tgt := 40) B dX5_rule_1 ⟨by omega, by omega⟩ (by omega) (by omega) (by rw [sw1_2]; decide) (by decide) ?_
      refine gx_aload_n B dX5_rule_40 rfl rfl ?_
      refine gx_iload_n B dX5_rule_41 rfl rfl ?_
      refine z_callVi [.int (zI v)] B lv_X5_79 (mX5_setStart hG J hI hv) rfl (by decide) rfl rfl (Nat.le_of_ble_eq_true rfl) (by decide) (by decide) dX5_rule_42 (fun r7 J6 hJ6 => ?_)
      refine z_ireti B Rt dX5_rule_45 ?_
      rcases hJ6 with ⟨q1, q2, q3, q4⟩ | ⟨q1, q2, q3⟩
      · refine Or.inl ⟨by omega, ?_, q3, ?_⟩
        · rw [q2, sw1_2]; rfl
        · rw [sw1_2]; exact q4
      · exact Or.inr ⟨by omega, q2, q3⟩
  · refine z_swOut (tgt := 46) B dX5_rule_1 ⟨by omega, by omega⟩ (by omega) (by decide) ?_
    refine z_iconst B dX5_rule_46 ?_
    refine z_ireti B Rt dX5_rule_47 ?_
    exact Or.inr ⟨by omega, rfl, rfl⟩

theorem mX5_beat {l : Launch} {G : gx_G} (hG : gx_OK G 76) (J : zJ) {n : Nat} (hI : Cinv J n) {c e q k : Int} (hc : zB c) (hl : zB e) (hq : zB q) (hk : zB k) : zMi l G yX5_beat cX5_beat 6 .int rmX5_beat [.ref (gx_ad G 0), .int (zI c), .int (zI e), .int (zI q), .int (zI k)] J (fun r J' => ((((0 ≤ c ∧ c ≤ 4095) ∧ (-1 ≤ e ∧ e ≤ 11) ∧ (1 ≤ q ∧ q ≤ 8) ∧ (0 ≤ k ∧ k ≤ 3)) ∧ n < 8) ∧ r = (n : Int) ∧ Cinv J' (n + 1) ∧ Core (wrD (zup J 1 5 ((n + 1 : Nat) : Int)) 1 n c e q k) J') ∨ (¬ ((0 ≤ c ∧ c ≤ 4095) ∧ (-1 ≤ e ∧ e ≤ 11) ∧ (1 ≤ q ∧ q ≤ 8) ∧ (0 ≤ k ∧ k ≤ 3)) ∧ r = -1 ∧ J' = J) ∨ ((((0 ≤ c ∧ c ≤ 4095) ∧ (-1 ≤ e ∧ e ≤ 11) ∧ (1 ≤ q ∧ q ≤ 8) ∧ (0 ≤ k ∧ k ≤ 3)) ∧ n = 8) ∧ r = -2 ∧ J' = J)) := by
  refine gx_mi hG (by decide) (Nat.le_of_ble_eq_true rfl) (fun X hla B Rt => ?_)
  subst hla
  have B : gx_B G X RX5 cX5_beat 6 rmX5_beat 76 := B
  show gx_WG G X 6 (zh J) 0 [(0, .ref (gx_ad G 0)), (1, .int (zI c)), (2, .int (zI e)), (3, .int (zI q)), (4, .int (zI k))] []
  have h8 := hI.1.2.2.2.2.2.1.2.1
  have h5 := hI.1.2.2.2.2.2.1.1
  obtain ⟨v1, v2, v3, v4, v5, v6, v7⟩ := id hI.1
  refine gx_iload_n B dX5_beat_0 rfl rfl ?_
  refine gx_iload_n B dX5_beat_1 rfl rfl ?_
  refine gx_iload_n B dX5_beat_2 rfl rfl ?_
  refine gx_iload B dX5_beat_3 rfl ?_
  refine z_callSi [.int (zI c), .int (zI e), .int (zI q), .int (zI k)] B ls_X5_82 (mX5_isBeat hG J hc hl hq hk) rfl rfl (Nat.le_of_ble_eq_true rfl) (by decide) (by decide) dX5_beat_5 (fun r2 J1 hJ1 => ?_)
  rw [show r2 = bz ((0 ≤ c ∧ c ≤ 4095) ∧ (-1 ≤ e ∧ e ≤ 11) ∧ (1 ≤ q ∧ q ≤ 8) ∧ (0 ≤ k ∧ k ≤ 3)) from hJ1.1, hJ1.2]
  refine z_if_ne (tgt := 13) B dX5_beat_8 (bzB _) (by decide) (fun c8 => ?_) (fun c8 => ?_)
  · rw [bz_n0] at c8
    refine gx_aload_n B dX5_beat_13 rfl rfl ?_
    refine gx_getr (t := 1) B fl_X5_10 rfl (by decide) rfl dX5_beat_14 ?_
    refine z_geti B fl_X5_86 (kDesk pD1) (bDesk pD1) (zDesk5 pD1) dX5_beat_17 ?_
    refine z_bipush B dX5_beat_20 (by decide) ?_
    refine z_icmp_lt (tgt := 28) B dX5_beat_22 ⟨by omega, by omega⟩ ⟨by omega, by omega⟩ (by decide) (fun c22 => ?_) (fun c22 => ?_)
    · refine gx_aload_n B dX5_beat_28 rfl rfl ?_
      refine gx_getr (t := 1) B fl_X5_10 rfl (by decide) rfl dX5_beat_29 ?_
      refine z_geti B fl_X5_86 (kDesk pD1) (bDesk pD1) (zDesk5 pD1) dX5_beat_32 ?_
      refine z_istore (fun v9 => [(0, .ref (gx_ad G 0)), (1, .int (zI c)), (2, .int (zI e)), (3, .int (zI q)), (4, .int (zI k)), (5, .int (zI v9))]) B dX5_beat_35 (by decide) rfl (fun _ => rfl) (fun v5i hv5i => ?_)
      rw [show v5i = (n : Int) from (by rw [hv5i]; exact h5)]
      refine gx_aload_n B dX5_beat_37 rfl rfl ?_
      refine gx_getr (t := 1) B fl_X5_10 rfl (by decide) rfl dX5_beat_38 ?_
      refine gx_iload B dX5_beat_41 rfl ?_
      refine z_iconst B dX5_beat_43 ?_
      refine z_iadd B dX5_beat_44 ?_
      refine z_puti B fw_X5_86 (kDesk pD1) (bDesk pD1) (zDesk5 pD1) dX5_beat_45 (fun J1 hJ1 => ?_)
      refine gx_aload_n B dX5_beat_48 rfl rfl ?_
      refine gx_getr (t := 1) B fl_X5_10 rfl (by decide) rfl dX5_beat_49 ?_
      refine gx_iload B dX5_beat_52 rfl ?_
      refine gx_iload_n B dX5_beat_54 rfl rfl ?_
      refine gx_iload_n B dX5_beat_55 rfl rfl ?_
      refine gx_iload_n B dX5_beat_56 rfl rfl ?_
      refine gx_iload B dX5_beat_57 rfl ?_
      refine z_callVv [.int (zI (n : Int)), .int (zI c), .int (zI e), .int (zI q), .int (zI k)] B lv_X5_89 (mX2_write hG pD1 J1 (b := n) (by omega) (c := c) (l := e) (n := q) (m := k)) (kDesk pD1) (bDesk pD1) rfl rfl (Nat.le_of_ble_eq_true rfl) (by decide) (by decide) dX5_beat_59 (fun J2 hJ2 => ?_)
      have hJ1e : J1 = zup J 1 5 ((n + 1 : Nat) : Int) := by rw [hJ1]; rfl
      rw [hJ1e] at hJ2
      have hV2 : VD J2 1 (n + 1) := by rw [hJ2]; exact VD_wr hI.1 (by omega) (Or.inr ⟨rfl, rfl⟩) c8.1 c8.2.1 c8.2.2.1 c8.2.2.2
      have fr2 : ∀ x i, ¬ (1 ≤ x ∧ x ≤ 5 ∧ (i = n ∨ i = 5)) → J2 x i = J x i := fun x i h => by rw [hJ2, wrD_ne (by omega), zup_ne (by omega)]
      have e10 : J2 1 0 = J 1 0 := by rw [hJ2, wrD_ne (by omega), zup_ne (by omega)]
      have e11 : J2 1 1 = J 1 1 := by rw [hJ2, wrD_ne (by omega), zup_ne (by omega)]
      have fa : ∀ x i, 2 ≤ x → i ≠ n → J2 x i = J x i := fun x i h1 h2 => by rw [hJ2, wrD_ne (by omega), zup_ne (by omega)]
      have fb : ∀ x i, x = 0 ∨ 6 ≤ x → J2 x i = J x i := fun x i h => by rw [hJ2, wrD_ne (by omega), zup_ne (by omega)]
      refine gx_aload_n B dX5_beat_62 rfl rfl ?_
      refine gx_iload B dX5_beat_63 rfl ?_
      refine z_callVv [.int (zI (n : Int))] B lv_X5_93 (mX5_settleBeat hG J2 (n := n + 1) (b := n) hV2 (by omega) (by rw [e10, e11]; exact hI.2.1.1.1.keep (fb _ _ (by omega)) (fun i => fb _ _ (by omega)) (fun i => fb _ _ (by omega))) (fun x hx hne => by rw [e10, e11, fa 2 x (by omega) hne, fa 3 x (by omega) hne]; exact (hI.2.1.1.2 x (by omega)).keep (fun i => fb _ _ (by omega)) (fun i => fb _ _ (by omega)))) rfl (by decide) rfl rfl (Nat.le_of_ble_eq_true rfl) (by decide) (by decide) dX5_beat_65 (fun J3 hJ3 => ?_)
      refine gx_iload B dX5_beat_68 rfl ?_
      refine z_ireti B Rt dX5_beat_70 ?_
      refine Or.inl ⟨⟨c8, by omega⟩, rfl, hI.of hV2 hJ3.1 hJ3.2 (fun x i h => fb x i (by omega)), fun x i h => ?_⟩
      rw [hJ3.2 x i (by omega), hJ2]
    · refine z_bipush B dX5_beat_25 (by decide) ?_
      refine z_ireti B Rt dX5_beat_27 ?_
      exact Or.inr (Or.inr ⟨⟨c8, by omega⟩, rfl, rfl⟩)
  · rw [bz_0] at c8
    refine z_iconst B dX5_beat_11 ?_
    refine z_ireti B Rt dX5_beat_12 ?_
    exact Or.inr (Or.inl ⟨c8, rfl, rfl⟩)

theorem mX5_alter {l : Launch} {G : gx_G} (hG : gx_OK G 76) (J : zJ) {n : Nat} (hI : Cinv J n) {b c e q k : Int} (hb : zB b) (hc : zB c) (hl : zB e) (hq : zB q) (hk : zB k) : zMi l G yX5_alter cX5_alter 6 .int rmX5_alter [.ref (gx_ad G 0), .int (zI b), .int (zI c), .int (zI e), .int (zI q), .int (zI k)] J (fun r J' => (((0 ≤ b ∧ b < n) ∧ ((0 ≤ c ∧ c ≤ 4095) ∧ (-1 ≤ e ∧ e ≤ 11) ∧ (1 ≤ q ∧ q ≤ 8) ∧ (0 ≤ k ∧ k ≤ 3))) ∧ r = 1 ∧ Cinv J' n ∧ Core (wrD J 1 b.toNat c e q k) J') ∨ (¬ ((0 ≤ b ∧ b < n) ∧ ((0 ≤ c ∧ c ≤ 4095) ∧ (-1 ≤ e ∧ e ≤ 11) ∧ (1 ≤ q ∧ q ≤ 8) ∧ (0 ≤ k ∧ k ≤ 3))) ∧ r = -1 ∧ J' = J)) := by
  refine gx_mi hG (by decide) (Nat.le_of_ble_eq_true rfl) (fun X hla B Rt => ?_)
  subst hla
  have B : gx_B G X RX5 cX5_alter 6 rmX5_alter 76 := B
  show gx_WG G X 6 (zh J) 0 [(0, .ref (gx_ad G 0)), (1, .int (zI b)), (2, .int (zI c)), (3, .int (zI e)), (4, .int (zI q)), (5, .int (zI k))] []
  have h8 := hI.1.2.2.2.2.2.1.2.1
  have h5 := hI.1.2.2.2.2.2.1.1
  obtain ⟨v1, v2, v3, v4, v5, v6, v7⟩ := id hI.1
  refine gx_aload_n B dX5_alter_0 rfl rfl ?_
  refine gx_getr (t := 1) B fl_X5_10 rfl (by decide) rfl dX5_alter_1 ?_
  refine gx_iload_n B dX5_alter_4 rfl rfl ?_
  refine z_callVi [.int (zI b)] B lv_X5_97 (mX2_has hG J pD1 hb ⟨by omega, by omega⟩) (kDesk pD1) (bDesk pD1) rfl rfl (Nat.le_of_ble_eq_true rfl) (by decide) (by decide) dX5_alter_5 (fun r2 J1 hJ1 => ?_)
  rw [show r2 = bz (0 ≤ b ∧ b < J 1 5) from hJ1.1, hJ1.2]
  refine z_if_eq (tgt := 23) B dX5_alter_8 (bzB _) (by decide) (fun c8 => ?_) (fun c8 => ?_)
  · rw [bz_0, h5] at c8
    refine z_iconst B dX5_alter_23 ?_
    refine z_ireti B Rt dX5_alter_24 ?_
    exact Or.inr ⟨by first | exact (fun q => c20 q.2) | exact (fun q => c8 q.1), rfl, rfl⟩
  · rw [bz_n0, h5] at c8
    obtain ⟨bb, rfl⟩ : ∃ bb : Nat, b = (bb : Int) := ⟨b.toNat, by omega⟩
    refine gx_iload_n B dX5_alter_11 rfl rfl ?_
    refine gx_iload_n B dX5_alter_12 rfl rfl ?_
    refine gx_iload B dX5_alter_13 rfl ?_
    refine gx_iload B dX5_alter_15 rfl ?_
    refine z_callSi [.int (zI c), .int (zI e), .int (zI q), .int (zI k)] B ls_X5_82 (mX5_isBeat hG J hc hl hq hk) rfl rfl (Nat.le_of_ble_eq_true rfl) (by decide) (by decide) dX5_alter_17 (fun r4 J3 hJ3 => ?_)
    rw [show r4 = bz ((0 ≤ c ∧ c ≤ 4095) ∧ (-1 ≤ e ∧ e ≤ 11) ∧ (1 ≤ q ∧ q ≤ 8) ∧ (0 ≤ k ∧ k ≤ 3)) from hJ3.1, hJ3.2]
    refine z_if_ne (tgt := 25) B dX5_alter_20 (bzB _) (by decide) (fun c20 => ?_) (fun c20 => ?_)
    · rw [bz_n0] at c20
      refine gx_aload_n B dX5_alter_25 rfl rfl ?_
      refine gx_getr (t := 1) B fl_X5_10 rfl (by decide) rfl dX5_alter_26 ?_
      refine gx_iload_n B dX5_alter_29 rfl rfl ?_
      refine gx_iload_n B dX5_alter_30 rfl rfl ?_
      refine gx_iload_n B dX5_alter_31 rfl rfl ?_
      refine gx_iload B dX5_alter_32 rfl ?_
      refine gx_iload B dX5_alter_34 rfl ?_
      refine z_callVv [.int (zI (bb : Int)), .int (zI c), .int (zI e), .int (zI q), .int (zI k)] B lv_X5_89 (mX2_write hG pD1 J (b := bb) (by omega) (c := c) (l := e) (n := q) (m := k)) (kDesk pD1) (bDesk pD1) rfl rfl (Nat.le_of_ble_eq_true rfl) (by decide) (by decide) dX5_alter_36 (fun J2 hJ2 => ?_)
      have hV2 : VD J2 1 n := by
        have h9 := VD_wr (b := bb) hI.1 h8 (Or.inl ⟨rfl, by omega⟩) c20.1 c20.2.1 c20.2.2.1 c20.2.2.2
        rw [zup_same h5, ← hJ2] at h9; exact h9
      have e10 : J2 1 0 = J 1 0 := by rw [hJ2, wrD_ne (by omega)]
      have e11 : J2 1 1 = J 1 1 := by rw [hJ2, wrD_ne (by omega)]
      have fa : ∀ x i, i ≠ bb → J2 x i = J x i := fun x i h2 => by rw [hJ2, wrD_ne (by omega)]
      have fb : ∀ x i, x = 0 ∨ 6 ≤ x → J2 x i = J x i := fun x i h => by rw [hJ2, wrD_ne (by omega)]
      refine gx_aload_n B dX5_alter_39 rfl rfl ?_
      refine gx_iload_n B dX5_alter_40 rfl rfl ?_
      refine z_callVv [.int (zI (bb : Int))] B lv_X5_93 (mX5_settleBeat hG J2 (n := n) (b := bb) hV2 (by omega) (by rw [e10, e11]; exact hI.2.1.1.1.keep (fb _ _ (by omega)) (fun i => fb _ _ (by omega)) (fun i => fb _ _ (by omega))) (fun x hx hne => by rw [e10, e11, fa 2 x hne, fa 3 x hne]; exact (hI.2.1.1.2 x (by omega)).keep (fun i => fb _ _ (by omega)) (fun i => fb _ _ (by omega)))) rfl (by decide) rfl rfl (Nat.le_of_ble_eq_true rfl) (by decide) (by decide) dX5_alter_41 (fun J3 hJ3 => ?_)
      refine z_iconst B dX5_alter_44 ?_
      refine z_ireti B Rt dX5_alter_45 ?_
      refine Or.inl ⟨⟨c8, c20⟩, rfl, hI.of hV2 hJ3.1 hJ3.2 (fun x i h => fb x i (by omega)), fun x i h => ?_⟩
      rw [hJ3.2 x i (by omega), hJ2, Int.toNat_natCast]
    · rw [bz_0] at c20
      refine z_iconst B dX5_alter_23 ?_
      refine z_ireti B Rt dX5_alter_24 ?_
      exact Or.inr ⟨by first | exact (fun q => c20 q.2) | exact (fun q => c8 q.1), rfl, rfl⟩

theorem mX5_drop {l : Launch} {G : gx_G} (hG : gx_OK G 76) (J : zJ) {n : Nat} (hI : Cinv J n)  : zMi l G yX5_drop cX5_drop 1 .int rmX5_drop [.ref (gx_ad G 0)] J (fun r J' => (0 < n ∧ r = ((n - 1 : Nat) : Int) ∧ Cinv J' (n - 1) ∧ Core (zup J 1 5 ((n - 1 : Nat) : Int)) J') ∨ (n = 0 ∧ r = -3 ∧ J' = J)) := by
  refine gx_mi hG (by decide) (Nat.le_of_ble_eq_true rfl) (fun X hla B Rt => ?_)
  subst hla
  have B : gx_B G X RX5 cX5_drop 1 rmX5_drop 76 := B
  show gx_WG G X 1 (zh J) 0 [(0, .ref (gx_ad G 0))] []
  have h8 := hI.1.2.2.2.2.2.1.2.1
  have h5 := hI.1.2.2.2.2.2.1.1
  obtain ⟨v1, v2, v3, v4, v5, v6, v7⟩ := id hI.1
  refine gx_aload_n B dX5_drop_0 rfl rfl ?_
  refine gx_getr (t := 1) B fl_X5_10 rfl (by decide) rfl dX5_drop_1 ?_
  refine z_geti B fl_X5_86 (kDesk pD1) (bDesk pD1) (zDesk5 pD1) dX5_drop_4 ?_
  refine z_if_gt (tgt := 13) B dX5_drop_7 ⟨by omega, by omega⟩ (by decide) (fun c7 => ?_) (fun c7 => ?_)
  · refine gx_aload_n B dX5_drop_13 rfl rfl ?_
    refine gx_getr (t := 1) B fl_X5_10 rfl (by decide) rfl dX5_drop_14 ?_
    refine gx_dup B dX5_drop_17 rfl ?_
    refine z_geti B fl_X5_86 (kDesk pD1) (bDesk pD1) (zDesk5 pD1) dX5_drop_18 ?_
    refine z_iconst B dX5_drop_21 ?_
    refine z_isub B dX5_drop_22 ?_
    refine z_puti B fw_X5_86 (kDesk pD1) (bDesk pD1) (zDesk5 pD1) dX5_drop_23 (fun J1 hJ1 => ?_)
    have fr1 : ∀ x q, ¬ (x = 1 ∧ q = 5) → J1 x q = J x q := fun x q h => by rw [hJ1, zup_ne h]
    have e5 : J1 1 5 = ((n - 1 : Nat) : Int) := by rw [hJ1, zup_self]; omega
    have hV1 : VD J1 1 (n - 1) := by
      refine ⟨?_, ?_, ?_, ?_, ?_, ⟨e5, by omega, fun i hi => ?_⟩, fun i hi => ?_⟩
      · rw [fr1 1 0 (by omega)]; omega
      · rw [fr1 1 1 (by omega)]; omega
      · rw [fr1 1 2 (by omega)]; omega
      · rw [fr1 1 3 (by omega)]; omega
      · rw [fr1 1 4 (by omega), fr1 1 3 (by omega)]; omega
      · rw [fr1 _ _ (by omega), fr1 _ _ (by omega)]; exact v6.2.2 i (by omega)
      · rw [fr1 _ _ (by omega), fr1 _ _ (by omega)]; exact v7 i (by omega)
    have hS1 := hI.2.1.desk h8 (J1 := J1) (fun x q h => fr1 x q (by omega))
    have hL1 : Lrn J1 14 (J1 1 0) (J1 1 1) (n - 1) (J1 2) (J1 3) := by
      rw [fr1 1 0 (by omega), fr1 1 1 (by omega), show J1 2 = J 2 from funext fun q => fr1 2 q (by omega), show J1 3 = J 3 from funext fun q => fr1 3 q (by omega)]
      exact ⟨hS1.1.1, fun x hx => hS1.1.2 x (by omega)⟩
    refine gx_aload_n B dX5_drop_26 rfl rfl ?_
    refine z_callVv [] B lv_X5_55 (mX5_settleHand hG J1 (n := n - 1) hV1 hL1) rfl (by decide) rfl rfl (Nat.le_of_ble_eq_true rfl) (by decide) (by decide) dX5_drop_27 (fun J2 hJ2 => ?_)
    refine gx_aload_n B dX5_drop_30 rfl rfl ?_
    refine gx_getr (t := 1) B fl_X5_10 rfl (by decide) rfl dX5_drop_31 ?_
    refine z_geti B fl_X5_86 (kDesk pD1) (bDesk pD1) (zDesk5 pD1) dX5_drop_34 ?_
    rw [show J2 1 5 = ((n - 1 : Nat) : Int) from (by rw [hJ2.2 1 5 (by omega)]; exact e5)]
    refine z_ireti B Rt dX5_drop_37 ?_
    refine Or.inl ⟨by omega, rfl, hI.of hV1 hJ2.1 (fun x q h => hJ2.2 x q (by omega)) (fun x q h => fr1 x q (by omega)), fun x q h => ?_⟩
    rw [hJ2.2 x q (by omega), hJ1]
    congr 1
    omega
  · refine z_bipush B dX5_drop_10 (by decide) ?_
    refine z_ireti B Rt dX5_drop_12 ?_
    exact Or.inr ⟨by omega, rfl, rfl⟩

theorem mX5_keep {l : Launch} {G : gx_G} (hG : gx_OK G 76) (J : zJ) {n : Nat} (hI : Cinv J n)  : zMi l G yX5_keep cX5_keep 1 .int rmX5_keep [.ref (gx_ad G 0)] J (fun r J' => r = 1 ∧ Cinv J' n ∧ J' = zup (cpyN J 6 1 8) 0 2 1) := by
  refine gx_mi hG (by decide) (Nat.le_of_ble_eq_true rfl) (fun X hla B Rt => ?_)
  subst hla
  have B : gx_B G X RX5 cX5_keep 1 rmX5_keep 76 := B
  show gx_WG G X 1 (zh J) 0 [(0, .ref (gx_ad G 0))] []
  have h8 := hI.1.2.2.2.2.2.1.2.1
  have h5 := hI.1.2.2.2.2.2.1.1
  obtain ⟨v1, v2, v3, v4, v5, v6, v7⟩ := id hI.1
  refine gx_aload_n B dX5_keep_0 rfl rfl ?_
  refine gx_getr (t := 6) B fl_X5_16 rfl (by decide) rfl dX5_keep_1 ?_
  refine gx_aload_n B dX5_keep_4 rfl rfl ?_
  refine gx_getr (t := 1) B fl_X5_10 rfl (by decide) rfl dX5_keep_5 ?_
  refine z_callVv [.ref (gx_ad G 1)] B lv_X5_192 (mX2_copyFrom hG pD6 pD1 (by omega) J) (kDesk pD6) (bDesk pD6) rfl rfl (Nat.le_of_ble_eq_true rfl) (by decide) (by decide) dX5_keep_8 (fun J1 hJ1 => ?_)
  refine gx_aload_n B dX5_keep_11 rfl rfl ?_
  refine z_iconst B dX5_keep_12 ?_
  refine z_putz B fw_X5_19 rfl (by decide) rfl (by decide) dX5_keep_13 (fun J2 hJ2 => ?_)
  refine z_iconst B dX5_keep_16 ?_
  refine z_ireti B Rt dX5_keep_17 ?_
  refine ⟨rfl, ?_, by rw [hJ2, hJ1]⟩
  have fr : ∀ x k, ¬ (6 ≤ x ∧ x ≤ 10) → x ≠ 0 → J2 x k = J x k := fun x k h1 h2 => by
    rw [hJ2, zup_ne (by omega), hJ1]
    unfold cpyN
    rw [if_neg (by omega), if_neg (by omega)]
  refine ⟨hI.1.keep (fun x k h1 h2 => fr x k (by omega) (by omega)), ?_, Or.inr ⟨by rw [hJ2, zup_self], n, ?_⟩⟩
  · obtain ⟨s1, s2⟩ := hI.2.1.desk h8 (J1 := J2) (fun x k h => fr x k (by omega) (by omega))
    refine ⟨?_, s2, ?_⟩
    · rw [fr 1 0 (by omega) (by omega), fr 1 1 (by omega) (by omega), show J2 2 = J 2 from funext fun k => fr 2 k (by omega) (by omega), show J2 3 = J 3 from funext fun k => fr 3 k (by omega) (by omega)]
      exact s1
    · obtain ⟨b1, b2, b3⟩ := hI.2.1.2.2
      refine ⟨by rw [fr 11 2 (by omega) (by omega)]; exact b1, fun b hb => ?_, ?_⟩
      · rw [fr 12 b (by omega) (by omega), fr 13 b (by omega) (by omega), fr 5 b (by omega) (by omega)]
        have : useZ J2 14 b = useZ J 14 b := by
          unfold useZ
          rw [fr 4 b (by omega) (by omega), fr 1 2 (by omega) (by omega), hnt_congr (fun k => fr _ k (by omega) (by omega)) (fr _ _ (by omega) (by omega)) (fun k => fr _ k (by omega) (by omega)) (fun k => fr _ k (by omega) (by omega))]
        rw [this]; exact b2 b hb
      · unfold BelN at b3 ⊢
        rw [fr 11 2 (by omega) (by omega), show J2 12 = J 12 from funext fun k => fr 12 k (by omega) (by omega), show J2 13 = J 13 from funext fun k => fr 13 k (by omega) (by omega), fr 1 4 (by omega) (by omega), fr 1 3 (by omega) (by omega), fr 11 3 (by omega) (by omega), fr 11 4 (by omega) (by omega), fr 11 5 (by omega) (by omega)]
        exact b3
  · have h9 := VD_cpy (d := 6) (by omega) hI.1
    exact h9.keep (fun x k h1 h2 => by rw [hJ2, zup_ne (by omega), hJ1])

theorem mX5_back {l : Launch} {G : gx_G} (hG : gx_OK G 76) (J : zJ) {n : Nat} (hI : Cinv J n)  : zMi l G yX5_back cX5_back 1 .int rmX5_back [.ref (gx_ad G 0)] J (fun r J' => (J 0 2 = 1 ∧ r = 1 ∧ (∃ m, VD J 6 m ∧ Cinv J' m) ∧ Core (cpyN J 1 6 8) J') ∨ (J 0 2 = 0 ∧ r = -3 ∧ J' = J)) := by
  refine gx_mi hG (by decide) (Nat.le_of_ble_eq_true rfl) (fun X hla B Rt => ?_)
  subst hla
  have B : gx_B G X RX5 cX5_back 1 rmX5_back 76 := B
  show gx_WG G X 1 (zh J) 0 [(0, .ref (gx_ad G 0))] []
  have h8 := hI.1.2.2.2.2.2.1.2.1
  have h5 := hI.1.2.2.2.2.2.1.1
  obtain ⟨v1, v2, v3, v4, v5, v6, v7⟩ := id hI.1
  refine gx_aload_n B dX5_back_0 rfl rfl ?_
  refine z_geti B fl_X5_19 rfl (by decide) rfl dX5_back_1 ?_
  refine z_if_ne (tgt := 10) B dX5_back_4 ⟨by rcases hI.2.2 with q | ⟨q, -⟩ <;> omega, by rcases hI.2.2 with q | ⟨q, -⟩ <;> omega⟩ (by decide) (fun c4 => ?_) (fun c4 => ?_)
  · obtain ⟨hk1, m, hVm⟩ : J 0 2 = 1 ∧ ∃ m, VD J 6 m := hI.2.2.resolve_left c4
    refine gx_aload_n B dX5_back_10 rfl rfl ?_
    refine gx_getr (t := 1) B fl_X5_10 rfl (by decide) rfl dX5_back_11 ?_
    refine gx_aload_n B dX5_back_14 rfl rfl ?_
    refine gx_getr (t := 6) B fl_X5_16 rfl (by decide) rfl dX5_back_15 ?_
    refine z_callVv [.ref (gx_ad G 6)] B lv_X5_192 (mX2_copyFrom hG pD1 pD6 (by omega) J) (kDesk pD1) (bDesk pD1) rfl rfl (Nat.le_of_ble_eq_true rfl) (by decide) (by decide) dX5_back_18 (fun J1 hJ1 => ?_)
    have hV1 : VD J1 1 m := by rw [hJ1]; exact VD_cpy (by omega) hVm
    have fr1 : ∀ x k, x = 0 ∨ 6 ≤ x → J1 x k = J x k := fun x k h => by
      rw [hJ1]
      unfold cpyN
      rw [if_neg (by omega), if_neg (by omega)]
    refine gx_aload_n B dX5_back_21 rfl rfl ?_
    refine gx_getr (t := 14) B fl_X5_26 rfl (by decide) rfl dX5_back_22 ?_
    refine gx_aload_n B dX5_back_25 rfl rfl ?_
    refine gx_getr (t := 1) B fl_X5_10 rfl (by decide) rfl dX5_back_26 ?_
    refine z_geti B fl_X5_44 (kDesk pD1) (bDesk pD1) (zDesk0 pD1) dX5_back_29 ?_
    refine gx_aload_n B dX5_back_32 rfl rfl ?_
    refine gx_getr (t := 1) B fl_X5_10 rfl (by decide) rfl dX5_back_33 ?_
    refine z_geti B fl_X5_48 (kDesk pD1) (bDesk pD1) (zDesk1 pD1) dX5_back_36 ?_
    refine gx_aload_n B dX5_back_39 rfl rfl ?_
    refine gx_getr (t := 1) B fl_X5_10 rfl (by decide) rfl dX5_back_40 ?_
    refine z_callVv [.int (zI (J1 1 0)), .int (zI (J1 1 1)), .ref (gx_ad G 1)] B lv_X5_51 (mX4_learn hG pH0 pD1 J1 (n := m) (base := J1 1 0) (rows := J1 1 1) hV1.1.1 hV1.1.2 hV1.2.2.2.2.2.1) (kHand pH0) (bHand pH0) rfl rfl (Nat.le_of_ble_eq_true rfl) (by decide) (by decide) dX5_back_43 (fun J3 hJ3 => ?_)
    have fr3 : ∀ x k, ¬ (14 ≤ x ∧ x ≤ 44) → J3 x k = J1 x k := fun x k h => hJ3.2 x k (by omega) (by omega)
    have hL3 : Lrn J3 14 (J3 1 0) (J3 1 1) m (J3 2) (J3 3) := by
      rw [fr3 1 0 (by omega), fr3 1 1 (by omega), show J3 2 = J1 2 from funext fun k => fr3 2 k (by omega), show J3 3 = J1 3 from funext fun k => fr3 3 k (by omega)]
      exact hJ3.1
    refine gx_aload_n B dX5_back_46 rfl rfl ?_
    refine z_callVv [] B lv_X5_55 (mX5_settleHand hG J3 (n := m) (hV1.keep (fun x k h1 h2 => fr3 x k (by omega))) hL3) rfl (by decide) rfl rfl (Nat.le_of_ble_eq_true rfl) (by decide) (by decide) dX5_back_47 (fun J4 hJ4 => ?_)
    refine z_iconst B dX5_back_50 ?_
    refine z_ireti B Rt dX5_back_51 ?_
    have fr4 : ∀ x k, ¬ (11 ≤ x ∧ x ≤ 44) → J4 x k = J1 x k := fun x k h => by rw [hJ4.2 x k h, fr3 x k (by omega)]
    refine Or.inl ⟨hk1, rfl, ⟨m, hVm, hI.of hV1 hJ4.1 fr4 (fun x k h => fr1 x k (by omega))⟩, fun x k h => ?_⟩
    rw [fr4 x k (by omega), hJ1]
  · refine z_bipush B dX5_back_7 (by decide) ?_
    refine z_ireti B Rt dX5_back_9 ?_
    exact Or.inr ⟨c4, rfl, rfl⟩

