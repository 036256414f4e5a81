def bz (p : Prop) [Decidable p] : Int := if p then 1 else 0
theorem gx_sub {G : gx_G} {X : gx_X} {nL : Nat} {I : gx_I} {pc : Nat} {lv lv1 : List (Nat × Value)} {st : List Value} (ks : List Nat) (h : lv_pick lv ks = lv1) (kk : gx_WG G X nL I pc lv1 st) : gx_WG G X nL I pc lv st := fun H locs ls hP hS hl => kk H locs ls hP hS (lv_sub hl ks h)
theorem bz_1 {p : Prop} [Decidable p] : bz p = 1 ↔ p := by unfold bz; split <;> simp_all
theorem bz_0 {p : Prop} [Decidable p] : bz p = 0 ↔ ¬ p := by unfold bz; split <;> simp_all
theorem bz_01 (p : Prop) [Decidable p] : bz p = 0 ∨ bz p = 1 := by unfold bz; split <;> simp
theorem mX6_in {l : Launch} {G : gx_G} (hG : gx_OK G 91) (J : zJ) {v a b : Int} (hv : zB v) (ha : zB a) (hb : zB b) : zMi l G yX6_in cX6_in 3 .boolean rmX6_in [.int (zI v), .int (zI a), .int (zI b)] J (fun r J' => r = bz (a ≤ v ∧ v ≤ b) ∧ J' = J) := by
  refine gx_mi hG (by decide) (Nat.le_of_ble_eq_true rfl) (fun X hla B Rt => ?_)
  subst hla
  have B : gx_B G X RX6 cX6_in 3 rmX6_in 91 := B
  show gx_WG G X 3 (zh J) 0 [(0, .int (zI v)), (1, .int (zI a)), (2, .int (zI b))] []
  refine gx_iload_n B dX6_in_0 rfl rfl ?_
  refine gx_iload_n B dX6_in_1 rfl rfl ?_
  refine z_icmp_lt (tgt := 14) B dX6_in_2 ⟨by omega, by omega⟩ ⟨by omega, by omega⟩ (by decide) (fun c2_1 => ?_) (fun c2_1 => ?_)
  · refine z_iconst B dX6_in_14 ?_
    refine z_iretz B Rt dX6_in_15 (by decide) ?_
    exact ⟨by unfold bz; split <;> omega, rfl⟩
  · refine gx_iload_n B dX6_in_5 rfl rfl ?_
    refine gx_iload_n B dX6_in_6 rfl rfl ?_
    refine z_icmp_gt (tgt := 14) B dX6_in_7 ⟨by omega, by omega⟩ ⟨by omega, by omega⟩ (by decide) (fun c7_2 => ?_) (fun c7_2 => ?_)
    · refine z_iconst B dX6_in_14 ?_
      refine z_iretz B Rt dX6_in_15 (by decide) ?_
      exact ⟨by unfold bz; split <;> omega, rfl⟩
    · refine z_iconst B dX6_in_10 ?_
      refine gx_goto (tgt := 15) B dX6_in_11 (by decide) ?_
      refine z_iretz B Rt dX6_in_15 (by decide) ?_
      exact ⟨by unfold bz; split <;> omega, rfl⟩

theorem bzB (p : Prop) [Decidable p] : zB (bz p) := by unfold bz; split <;> decide
theorem mX5_isSystem {l : Launch} {G : gx_G} (hG : gx_OK G 76) (J : zJ) {a b : Int} (ha : zB a) (hb : zB b) : zMi l G yX5_isSystem cX5_isSystem 2 .boolean rmX5_isSystem [.int (zI a), .int (zI b)] J (fun r J' => r = bz (0 ≤ a ∧ a < 12 ∧ 0 ≤ b ∧ b ≤ 63) ∧ J' = J) := by
  refine gx_mi hG (by decide) (Nat.le_of_ble_eq_true rfl) (fun X hla B Rt => ?_)
  subst hla
  have B : gx_B G X RX5 cX5_isSystem 2 rmX5_isSystem 76 := B
  show gx_WG G X 2 (zh J) 0 [(0, .int (zI a)), (1, .int (zI b))] []
  refine gx_iload_n B dX5_isSystem_0 rfl rfl ?_
  refine z_if_lt (tgt := 24) B dX5_isSystem_1 ⟨by omega, by omega⟩ (by decide) (fun c1_1 => ?_) (fun c1_1 => ?_)
  · refine z_iconst B dX5_isSystem_24 ?_
    refine z_iretz B Rt dX5_isSystem_25 (by decide) ?_
    exact ⟨by unfold bz; split <;> omega, rfl⟩
  · refine gx_iload_n B dX5_isSystem_4 rfl rfl ?_
    refine z_bipush B dX5_isSystem_5 (by decide) ?_
    refine z_icmp_ge (tgt := 24) B dX5_isSystem_7 ⟨by omega, by omega⟩ ⟨by omega, by omega⟩ (by decide) (fun c7_2 => ?_) (fun c7_2 => ?_)
    · refine z_iconst B dX5_isSystem_24 ?_
      refine z_iretz B Rt dX5_isSystem_25 (by decide) ?_
      exact ⟨by unfold bz; split <;> omega, rfl⟩
    · refine gx_iload_n B dX5_isSystem_10 rfl rfl ?_
      refine z_if_lt (tgt := 24) B dX5_isSystem_11 ⟨by omega, by omega⟩ (by decide) (fun c11_3 => ?_) (fun c11_3 => ?_)
      · refine z_iconst B dX5_isSystem_24 ?_
        refine z_iretz B Rt dX5_isSystem_25 (by decide) ?_
        exact ⟨by unfold bz; split <;> omega, rfl⟩
      · refine gx_iload_n B dX5_isSystem_14 rfl rfl ?_
        refine z_bipush B dX5_isSystem_15 (by decide) ?_
        refine z_icmp_gt (tgt := 24) B dX5_isSystem_17 ⟨by omega, by omega⟩ ⟨by omega, by omega⟩ (by decide) (fun c17_4 => ?_) (fun c17_4 => ?_)
        · refine z_iconst B dX5_isSystem_24 ?_
          refine z_iretz B Rt dX5_isSystem_25 (by decide) ?_
          exact ⟨by unfold bz; split <;> omega, rfl⟩
        · refine z_iconst B dX5_isSystem_20 ?_
          refine gx_goto (tgt := 25) B dX5_isSystem_21 (by decide) ?_
          refine z_iretz B Rt dX5_isSystem_25 (by decide) ?_
          exact ⟨by unfold bz; split <;> omega, rfl⟩

theorem mX5_isBeat {l : Launch} {G : gx_G} (hG : gx_OK G 76) (J : zJ) {a b c d : Int} (ha : zB a) (hb : zB b) (hc : zB c) (hd : zB d) : zMi l G yX5_isBeat cX5_isBeat 4 .boolean rmX5_isBeat [.int (zI a), .int (zI b), .int (zI c), .int (zI d)] J (fun r J' => r = bz ((0 ≤ a ∧ a ≤ 4095) ∧ (-1 ≤ b ∧ b ≤ 11) ∧ (1 ≤ c ∧ c ≤ 8) ∧ (0 ≤ d ∧ d ≤ 3)) ∧ J' = J) := by
  refine gx_mi hG (by decide) (Nat.le_of_ble_eq_true rfl) (fun X hla B Rt => ?_)
  subst hla
  have B : gx_B G X RX5 cX5_isBeat 4 rmX5_isBeat 76 := B
  show gx_WG G X 4 (zh J) 0 [(0, .int (zI a)), (1, .int (zI b)), (2, .int (zI c)), (3, .int (zI d))] []
  refine gx_iload_n B dX5_isBeat_0 rfl rfl ?_
  refine z_if_lt (tgt := 46) B dX5_isBeat_1 ⟨by omega, by omega⟩ (by decide) (fun c1_1 => ?_) (fun c1_1 => ?_)
  · refine z_iconst B dX5_isBeat_46 ?_
    refine z_iretz B Rt dX5_isBeat_47 (by decide) ?_
    exact ⟨by unfold bz; split <;> omega, rfl⟩
  · refine gx_iload_n B dX5_isBeat_4 rfl rfl ?_
    refine z_sipush B dX5_isBeat_5 (by decide) ?_
    refine z_icmp_gt (tgt := 46) B dX5_isBeat_8 ⟨by omega, by omega⟩ ⟨by omega, by omega⟩ (by decide) (fun c8_2 => ?_) (fun c8_2 => ?_)
    · refine z_iconst B dX5_isBeat_46 ?_
      refine z_iretz B Rt dX5_isBeat_47 (by decide) ?_
      exact ⟨by unfold bz; split <;> omega, rfl⟩
    · refine gx_iload_n B dX5_isBeat_11 rfl rfl ?_
      refine z_iconst B dX5_isBeat_12 ?_
      refine z_icmp_lt (tgt := 46) B dX5_isBeat_13 ⟨by omega, by omega⟩ ⟨by omega, by omega⟩ (by decide) (fun c13_3 => ?_) (fun c13_3 => ?_)
      · refine z_iconst B dX5_isBeat_46 ?_
        refine z_iretz B Rt dX5_isBeat_47 (by decide) ?_
        exact ⟨by unfold bz; split <;> omega, rfl⟩
      · refine gx_iload_n B dX5_isBeat_16 rfl rfl ?_
        refine z_bipush B dX5_isBeat_17 (by decide) ?_
        refine z_icmp_ge (tgt := 46) B dX5_isBeat_19 ⟨by omega, by omega⟩ ⟨by omega, by omega⟩ (by decide) (fun c19_4 => ?_) (fun c19_4 => ?_)
        · refine z_iconst B dX5_isBeat_46 ?_
          refine z_iretz B Rt dX5_isBeat_47 (by decide) ?_
          exact ⟨by unfold bz; split <;> omega, rfl⟩
        · refine gx_iload_n B dX5_isBeat_22 rfl rfl ?_
          refine z_iconst B dX5_isBeat_23 ?_
          refine z_icmp_lt (tgt := 46) B dX5_isBeat_24 ⟨by omega, by omega⟩ ⟨by omega, by omega⟩ (by decide) (fun c24_5 => ?_) (fun c24_5 => ?_)
          · refine z_iconst B dX5_isBeat_46 ?_
            refine z_iretz B Rt dX5_isBeat_47 (by decide) ?_
            exact ⟨by unfold bz; split <;> omega, rfl⟩
          · refine gx_iload_n B dX5_isBeat_27 rfl rfl ?_
            refine z_bipush B dX5_isBeat_28 (by decide) ?_
            refine z_icmp_gt (tgt := 46) B dX5_isBeat_30 ⟨by omega, by omega⟩ ⟨by omega, by omega⟩ (by decide) (fun c30_6 => ?_) (fun c30_6 => ?_)
            · refine z_iconst B dX5_isBeat_46 ?_
              refine z_iretz B Rt dX5_isBeat_47 (by decide) ?_
              exact ⟨by unfold bz; split <;> omega, rfl⟩
            · refine gx_iload_n B dX5_isBeat_33 rfl rfl ?_
              refine z_if_lt (tgt := 46) B dX5_isBeat_34 ⟨by omega, by omega⟩ (by decide) (fun c34_7 => ?_) (fun c34_7 => ?_)
              · refine z_iconst B dX5_isBeat_46 ?_
                refine z_iretz B Rt dX5_isBeat_47 (by decide) ?_
                exact ⟨by unfold bz; split <;> omega, rfl⟩
              · refine gx_iload_n B dX5_isBeat_37 rfl rfl ?_
                refine z_iconst B dX5_isBeat_38 ?_
                refine z_icmp_gt (tgt := 46) B dX5_isBeat_39 ⟨by omega, by omega⟩ ⟨by omega, by omega⟩ (by decide) (fun c39_8 => ?_) (fun c39_8 => ?_)
                · refine z_iconst B dX5_isBeat_46 ?_
                  refine z_iretz B Rt dX5_isBeat_47 (by decide) ?_
                  exact ⟨by unfold bz; split <;> omega, rfl⟩
                · refine z_iconst B dX5_isBeat_42 ?_
                  refine gx_goto (tgt := 47) B dX5_isBeat_43 (by decide) ?_
                  refine z_iretz B Rt dX5_isBeat_47 (by decide) ?_
                  exact ⟨by unfold bz; split <;> omega, rfl⟩

theorem mX5_rootOf {l : Launch} {G : gx_G} (hG : gx_OK G 76) (J : zJ) {a b : Int} : zMi l G yX5_rootOf cX5_rootOf 2 .int rmX5_rootOf [.int (zI a), .int (zI b)] J (fun r J' => r = zrem (a + 7 * b) 12 ∧ J' = J) := by
  refine gx_mi hG (by decide) (Nat.le_of_ble_eq_true rfl) (fun X hla B Rt => ?_)
  subst hla
  have B : gx_B G X RX5 cX5_rootOf 2 rmX5_rootOf 76 := B
  show gx_WG G X 2 (zh J) 0 [(0, .int (zI a)), (1, .int (zI b))] []
  refine gx_iload_n B dX5_rootOf_0 rfl rfl ?_
  refine z_bipush B dX5_rootOf_1 (by decide) ?_
  refine gx_iload_n B dX5_rootOf_3 rfl rfl ?_
  refine z_imul B dX5_rootOf_4 ?_
  refine z_iadd B dX5_rootOf_5 ?_
  refine z_bipush B dX5_rootOf_6 (by decide) ?_
  refine z_irem B dX5_rootOf_8 (by decide) ?_
  refine z_ireti B Rt dX5_rootOf_9 ?_
  exact ⟨rfl, rfl⟩

theorem mX2_has {l : Launch} {G : gx_G} (hG : gx_OK G 76) (J : zJ) {d : Nat} (hd : isDesk d) {b : Int} (hb : zB b) (hn : zB (J d 5)) : zMi l G yX2_has cX2_has 2 .boolean rmX2_has [.ref (gx_ad G d), .int (zI b)] J (fun r J' => r = bz (0 ≤ b ∧ b < J d 5) ∧ J' = J) := by
  refine gx_mi hG (by decide) (Nat.le_of_ble_eq_true rfl) (fun X hla B Rt => ?_)
  subst hla
  have B : gx_B G X RX2 cX2_has 2 rmX2_has 76 := B
  show gx_WG G X 2 (zh J) 0 [(0, .ref (gx_ad G d)), (1, .int (zI b))] []
  refine gx_iload_n B dX2_has_0 rfl rfl ?_
  refine z_if_lt (tgt := 16) B dX2_has_1 ⟨by omega, by omega⟩ (by decide) (fun c1_1 => ?_) (fun c1_1 => ?_)
  · refine z_iconst B dX2_has_16 ?_
    refine z_iretz B Rt dX2_has_17 (by decide) ?_
    exact ⟨by unfold bz; split <;> omega, rfl⟩
  · refine gx_iload_n B dX2_has_4 rfl rfl ?_
    refine gx_aload_n B dX2_has_5 rfl rfl ?_
    refine z_geti B fl_X2_27 (kDesk hd) (bDesk hd) (zDesk5 hd) dX2_has_6 ?_
    refine z_icmp_ge (tgt := 16) B dX2_has_9 ⟨by omega, by omega⟩ ⟨by omega, by omega⟩ (by decide) (fun c9_2 => ?_) (fun c9_2 => ?_)
    · refine z_iconst B dX2_has_16 ?_
      refine z_iretz B Rt dX2_has_17 (by decide) ?_
      exact ⟨by unfold bz; split <;> omega, rfl⟩
    · refine z_iconst B dX2_has_12 ?_
      refine gx_goto (tgt := 17) B dX2_has_13 (by decide) ?_
      refine z_iretz B Rt dX2_has_17 (by decide) ?_
      exact ⟨by unfold bz; split <;> omega, rfl⟩

theorem mX0_hasWay {l : Launch} {G : gx_G} (hG : gx_OK G 76) (J : zJ) (hw : zB (J 11 3)) : zMi l G yX0_hasWay cX0_hasWay 1 .boolean rmX0_hasWay [.ref (gx_ad G 11)] J (fun r J' => r = bz (¬ J 11 3 = -1) ∧ J' = J) := by
  refine gx_mi hG (by decide) (Nat.le_of_ble_eq_true rfl) (fun X hla B Rt => ?_)
  subst hla
  have B : gx_B G X RX0 cX0_hasWay 1 rmX0_hasWay 76 := B
  show gx_WG G X 1 (zh J) 0 [(0, .ref (gx_ad G 11))] []
  refine gx_aload_n B dX0_hasWay_0 rfl rfl ?_
  refine z_geti B fl_X0_22 rfl (by decide) rfl dX0_hasWay_1 ?_
  refine z_iconst B dX0_hasWay_4 ?_
  refine z_icmp_eq (tgt := 12) B dX0_hasWay_5 ⟨by omega, by omega⟩ ⟨by omega, by omega⟩ (by decide) (fun c5_1 => ?_) (fun c5_1 => ?_)
  · refine z_iconst B dX0_hasWay_12 ?_
    refine z_iretz B Rt dX0_hasWay_13 (by decide) ?_
    exact ⟨by unfold bz; split <;> omega, rfl⟩
  · refine z_iconst B dX0_hasWay_8 ?_
    refine gx_goto (tgt := 13) B dX0_hasWay_9 (by decide) ?_
    refine z_iretz B Rt dX0_hasWay_13 (by decide) ?_
    exact ⟨by unfold bz; split <;> omega, rfl⟩

theorem mX1_raised {l : Launch} {G : gx_G} (hG : gx_OK G 76) (J : zJ) {a b : Int} : zMi l G yX1_raised cX1_raised 2 .int rmX1_raised [.int (zI a), .int (zI b)] J (fun r J' => r = zand (zor (zshl a b) (zshr a (12 - b))) 4095 ∧ J' = J) := by
  refine gx_mi hG (by decide) (Nat.le_of_ble_eq_true rfl) (fun X hla B Rt => ?_)
  subst hla
  have B : gx_B G X RX1 cX1_raised 2 rmX1_raised 76 := B
  show gx_WG G X 2 (zh J) 0 [(0, .int (zI a)), (1, .int (zI b))] []
  refine gx_iload_n B dX1_raised_0 rfl rfl ?_
  refine gx_iload_n B dX1_raised_1 rfl rfl ?_
  refine z_ishl B dX1_raised_2 ?_
  refine gx_iload_n B dX1_raised_3 rfl rfl ?_
  refine z_bipush B dX1_raised_4 (by decide) ?_
  refine gx_iload_n B dX1_raised_6 rfl rfl ?_
  refine z_isub B dX1_raised_7 ?_
  refine z_ishr B dX1_raised_8 ?_
  refine z_ior B dX1_raised_9 ?_
  refine z_sipush B dX1_raised_10 (by decide) ?_
  refine z_iand B dX1_raised_13 ?_
  refine z_ireti B Rt dX1_raised_14 ?_
  exact ⟨rfl, rfl⟩

theorem mX3_hasLowButton {l : Launch} {G : gx_G} (hG : gx_OK G 76) (J : zJ) {g : Nat} (hg : isGoods g) (h6 : zB (J g 6)) (h7 : zB (J g 7)) : zMi l G yX3_hasLowButton cX3_hasLowButton 1 .boolean rmX3_hasLowButton [.ref (gx_ad G g)] J (fun r J' => r = bz (¬ J g 6 = -1 ∨ ¬ J g 7 = -1) ∧ J' = J) := by
  refine gx_mi hG (by decide) (Nat.le_of_ble_eq_true rfl) (fun X hla B Rt => ?_)
  subst hla
  have B : gx_B G X RX3 cX3_hasLowButton 1 rmX3_hasLowButton 76 := B
  show gx_WG G X 1 (zh J) 0 [(0, .ref (gx_ad G g))] []
  refine gx_aload_n B dX3_hasLowButton_0 rfl rfl ?_
  refine z_geti B fl_X3_31 (kGoods hg) (bGoods hg) (zGoods6 hg) dX3_hasLowButton_1 ?_
  refine z_iconst B dX3_hasLowButton_4 ?_
  refine z_icmp_ne (tgt := 16) B dX3_hasLowButton_5 ⟨by omega, by omega⟩ ⟨by omega, by omega⟩ (by decide) (fun c5_1 => ?_) (fun c5_1 => ?_)
  · refine z_iconst B dX3_hasLowButton_16 ?_
    refine gx_goto (tgt := 21) B dX3_hasLowButton_17 (by decide) ?_
    refine z_iretz B Rt dX3_hasLowButton_21 (by decide) ?_
    exact ⟨by unfold bz; split <;> omega, rfl⟩
  · refine gx_aload_n B dX3_hasLowButton_8 rfl rfl ?_
    refine z_geti B fl_X3_34 (kGoods hg) (bGoods hg) (zGoods7 hg) dX3_hasLowButton_9 ?_
    refine z_iconst B dX3_hasLowButton_12 ?_
    refine z_icmp_eq (tgt := 20) B dX3_hasLowButton_13 ⟨by omega, by omega⟩ ⟨by omega, by omega⟩ (by decide) (fun c13_2 => ?_) (fun c13_2 => ?_)
    · refine z_iconst B dX3_hasLowButton_20 ?_
      refine z_iretz B Rt dX3_hasLowButton_21 (by decide) ?_
      exact ⟨by unfold bz; split <;> omega, rfl⟩
    · refine z_iconst B dX3_hasLowButton_16 ?_
      refine gx_goto (tgt := 21) B dX3_hasLowButton_17 (by decide) ?_
      refine z_iretz B Rt dX3_hasLowButton_21 (by decide) ?_
      exact ⟨by unfold bz; split <;> omega, rfl⟩

