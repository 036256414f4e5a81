
/-- the reference's numbers are as they may be -/
def VM (J : zJ) (n : Nat) : Prop := (0 ≤ J 77 0 ∧ J 77 0 < 12) ∧ (0 ≤ J 77 1 ∧ J 77 1 ≤ 63) ∧ (1 ≤ J 77 2 ∧ J 77 2 ≤ 3) ∧ (1 ≤ J 77 3 ∧ J 77 3 ≤ 400) ∧ (0 ≤ J 77 4 ∧ J 77 4 ≤ J 77 3) ∧ (J 77 5 = (n : Int) ∧ n ≤ 8) ∧ (∀ b, b < n → (0 ≤ J 78 (4 * b) ∧ J 78 (4 * b) ≤ 4095) ∧ (-1 ≤ J 78 (4 * b + 1) ∧ J 78 (4 * b + 1) ≤ 11) ∧ (1 ≤ J 78 (4 * b + 2) ∧ J 78 (4 * b + 2) ≤ 8) ∧ (0 ≤ J 78 (4 * b + 3) ∧ J 78 (4 * b + 3) ≤ 3)) ∧ J 90 0 = 3 ∧ J 90 1 = 0 ∧ J 90 2 = 1 ∧ J 90 3 = 1000

theorem mX6_isBeat {l : Launch} {G : gx_G} (hG : gx_OK G 91) (J : zJ) {n : Nat} (hM : VM J n) {b : Int} (hb : zB b) : zMi l G yX6_isBeat cX6_isBeat 2 .boolean rmX6_isBeat [.ref (gx_ad G 76), .int (zI b)] J (fun r J' => r = bz (0 ≤ b ∧ b < n) ∧ J' = J) := by
  refine gx_mi hG (by decide) (Nat.le_of_ble_eq_true rfl) (fun X hla B Rt => ?_)
  subst hla
  have B : gx_B G X RX6 cX6_isBeat 2 rmX6_isBeat 91 := B
  show gx_WG G X 2 (zh J) 0 [(0, .ref (gx_ad G 76)), (1, .int (zI b))] []
  obtain ⟨v1, v2, v3, v4, v5, ⟨h5, h8⟩, v7, v8⟩ := id hM
  refine gx_iload_n B dX6_isBeat_0 rfl rfl ?_
  refine z_iconst B dX6_isBeat_1 ?_
  refine gx_aload_n B dX6_isBeat_2 rfl rfl ?_
  refine gx_getr (t := 77) B fl_X6_7 rfl (by decide) rfl dX6_isBeat_3 ?_
  refine z_iconst B dX6_isBeat_6 ?_
  refine z_iald 5 B rfl (by decide) rfl (by decide) (by decide) dX6_isBeat_7 ?_
  refine z_iconst B dX6_isBeat_8 ?_
  refine z_isub B dX6_isBeat_9 ?_
  refine z_callSi [.int (zI b), .int (zI 0), .int (zI ((J 77 5) - 1))] B ls_X6_52 (mX6_in hG J (v := b) (a := 0) (b := (J 77 5) - 1) ⟨by omega, by omega⟩ ⟨by omega, by omega⟩ ⟨by omega, by omega⟩) rfl rfl (Nat.le_of_ble_eq_true rfl) (by decide) (by decide) dX6_isBeat_10 (fun r2 J1 hJ1 => ?_)
  rw [show r2 = bz (0 ≤ b ∧ b ≤ (J 77 5) - 1) from hJ1.1, hJ1.2]
  refine z_iretz B Rt dX6_isBeat_13 (bz_01 _) ?_
  refine ⟨?_, rfl⟩
  unfold bz
  split <;> split <;> omega

theorem mX6_isSystem {l : Launch} {G : gx_G} (hG : gx_OK G 91) (J : zJ) {a b : Int} (ha : zB a) (hb : zB b) : zMi l G yX6_isSystem cX6_isSystem 2 .boolean rmX6_isSystem [.int (zI a), .int (zI b)] J (fun r J' => r = bz (0 ≤ a ∧ a < 12 ∧ 0 ≤ b ∧ b ≤ 63) ∧ J' = J) := by
  refine gx_mi hG (by decide) (Nat.le_of_ble_eq_true rfl) (fun X hla B Rt => ?_)
  subst hla
  have B : gx_B G X RX6 cX6_isSystem 2 rmX6_isSystem 91 := B
  show gx_WG G X 2 (zh J) 0 [(0, .int (zI a)), (1, .int (zI b))] []
  refine gx_iload_n B dX6_isSystem_0 rfl rfl ?_
  refine z_iconst B dX6_isSystem_1 ?_
  refine z_bipush B dX6_isSystem_2 (by decide) ?_
  refine z_callSi [.int (zI a), .int (zI 0), .int (zI 11)] B ls_X6_52 (mX6_in hG J (v := a) (a := 0) (b := 11) ⟨by omega, by omega⟩ ⟨by omega, by omega⟩ ⟨by omega, by omega⟩) rfl rfl (Nat.le_of_ble_eq_true rfl) (by decide) (by decide) dX6_isSystem_4 (fun r2 J1 hJ1 => ?_)
  rw [show r2 = bz (0 ≤ a ∧ a ≤ 11) from hJ1.1, hJ1.2]
  refine z_if_eq (tgt := 24) B dX6_isSystem_7 (bzB _) (by decide) (fun c7 => ?_) (fun c7 => ?_)
  · rw [bz_0] at c7
    refine z_iconst B dX6_isSystem_24 ?_
    refine z_iretz B Rt dX6_isSystem_25 (by decide) ?_
    refine ⟨?_, rfl⟩
    unfold bz
    split <;> omega
  · rw [bz_n0] at c7
    refine gx_iload_n B dX6_isSystem_10 rfl rfl ?_
    refine z_iconst B dX6_isSystem_11 ?_
    refine z_bipush B dX6_isSystem_12 (by decide) ?_
    refine z_callSi [.int (zI b), .int (zI 0), .int (zI 63)] B ls_X6_52 (mX6_in hG J (v := b) (a := 0) (b := 63) ⟨by omega, by omega⟩ ⟨by omega, by omega⟩ ⟨by omega, by omega⟩) rfl rfl (Nat.le_of_ble_eq_true rfl) (by decide) (by decide) dX6_isSystem_14 (fun r4 J3 hJ3 => ?_)
    rw [show r4 = bz (0 ≤ b ∧ b ≤ 63) from hJ3.1, hJ3.2]
    refine z_if_eq (tgt := 24) B dX6_isSystem_17 (bzB _) (by decide) (fun c17 => ?_) (fun c17 => ?_)
    · rw [bz_0] at c17
      refine z_iconst B dX6_isSystem_24 ?_
      refine z_iretz B Rt dX6_isSystem_25 (by decide) ?_
      refine ⟨?_, rfl⟩
      unfold bz
      split <;> omega
    · rw [bz_n0] at c17
      refine z_iconst B dX6_isSystem_20 ?_
      refine gx_goto (tgt := 25) B dX6_isSystem_21 (by decide) ?_
      refine z_iretz B Rt dX6_isSystem_25 (by decide) ?_
      refine ⟨?_, rfl⟩
      unfold bz
      split <;> omega

theorem mX6_isTold {l : Launch} {G : gx_G} (hG : gx_OK G 91) (J : zJ) {c e q k : Int} (hc : zB c) (he : zB e) (hq : zB q) (hk : zB k) : zMi l G yX6_isTold cX6_isTold 4 .boolean rmX6_isTold [.int (zI c), .int (zI e), .int (zI q), .int (zI k)] J (fun r J' => r = bz ((0 ≤ c ∧ c ≤ 4095) ∧ (-1 ≤ e ∧ e ≤ 11) ∧ (1 ≤ q ∧ q ≤ 8) ∧ (0 ≤ k ∧ k ≤ 3)) ∧ J' = J) := by
  refine gx_mi hG (by decide) (Nat.le_of_ble_eq_true rfl) (fun X hla B Rt => ?_)
  subst hla
  have B : gx_B G X RX6 cX6_isTold 4 rmX6_isTold 91 := B
  show gx_WG G X 4 (zh J) 0 [(0, .int (zI c)), (1, .int (zI e)), (2, .int (zI q)), (3, .int (zI k))] []
  refine gx_iload_n B dX6_isTold_0 rfl rfl ?_
  refine z_iconst B dX6_isTold_1 ?_
  refine z_sipush B dX6_isTold_2 (by decide) ?_
  refine z_callSi [.int (zI c), .int (zI 0), .int (zI 4095)] B ls_X6_52 (mX6_in hG J (v := c) (a := 0) (b := 4095) ⟨by omega, by omega⟩ ⟨by omega, by omega⟩ ⟨by omega, by omega⟩) rfl rfl (Nat.le_of_ble_eq_true rfl) (by decide) (by decide) dX6_isTold_5 (fun r2 J1 hJ1 => ?_)
  rw [show r2 = bz (0 ≤ c ∧ c ≤ 4095) from hJ1.1, hJ1.2]
  refine z_if_eq (tgt := 44) B dX6_isTold_8 (bzB _) (by decide) (fun c8 => ?_) (fun c8 => ?_)
  · rw [bz_0] at c8
    refine z_iconst B dX6_isTold_44 ?_
    refine z_iretz B Rt dX6_isTold_45 (by decide) ?_
    refine ⟨?_, rfl⟩
    unfold bz
    split <;> omega
  · rw [bz_n0] at c8
    refine gx_iload_n B dX6_isTold_11 rfl rfl ?_
    refine z_iconst B dX6_isTold_12 ?_
    refine z_bipush B dX6_isTold_13 (by decide) ?_
    refine z_callSi [.int (zI e), .int (zI (-1)), .int (zI 11)] B ls_X6_52 (mX6_in hG J (v := e) (a := -1) (b := 11) ⟨by omega, by omega⟩ ⟨by omega, by omega⟩ ⟨by omega, by omega⟩) rfl rfl (Nat.le_of_ble_eq_true rfl) (by decide) (by decide) dX6_isTold_15 (fun r4 J3 hJ3 => ?_)
    rw [show r4 = bz (-1 ≤ e ∧ e ≤ 11) from hJ3.1, hJ3.2]
    refine z_if_eq (tgt := 44) B dX6_isTold_18 (bzB _) (by decide) (fun c18 => ?_) (fun c18 => ?_)
    · rw [bz_0] at c18
      refine z_iconst B dX6_isTold_44 ?_
      refine z_iretz B Rt dX6_isTold_45 (by decide) ?_
      refine ⟨?_, rfl⟩
      unfold bz
      split <;> omega
    · rw [bz_n0] at c18
      refine gx_iload_n B dX6_isTold_21 rfl rfl ?_
      refine z_iconst B dX6_isTold_22 ?_
      refine z_bipush B dX6_isTold_23 (by decide) ?_
      refine z_callSi [.int (zI q), .int (zI 1), .int (zI 8)] B ls_X6_52 (mX6_in hG J (v := q) (a := 1) (b := 8) ⟨by omega, by omega⟩ ⟨by omega, by omega⟩ ⟨by omega, by omega⟩) rfl rfl (Nat.le_of_ble_eq_true rfl) (by decide) (by decide) dX6_isTold_25 (fun r6 J5 hJ5 => ?_)
      rw [show r6 = bz (1 ≤ q ∧ q ≤ 8) from hJ5.1, hJ5.2]
      refine z_if_eq (tgt := 44) B dX6_isTold_28 (bzB _) (by decide) (fun c28 => ?_) (fun c28 => ?_)
      · rw [bz_0] at c28
        refine z_iconst B dX6_isTold_44 ?_
        refine z_iretz B Rt dX6_isTold_45 (by decide) ?_
        refine ⟨?_, rfl⟩
        unfold bz
        split <;> omega
      · rw [bz_n0] at c28
        refine gx_iload_n B dX6_isTold_31 rfl rfl ?_
        refine z_iconst B dX6_isTold_32 ?_
        refine z_iconst B dX6_isTold_33 ?_
        refine z_callSi [.int (zI k), .int (zI 0), .int (zI 3)] B ls_X6_52 (mX6_in hG J (v := k) (a := 0) (b := 3) ⟨by omega, by omega⟩ ⟨by omega, by omega⟩ ⟨by omega, by omega⟩) rfl rfl (Nat.le_of_ble_eq_true rfl) (by decide) (by decide) dX6_isTold_34 (fun r8 J7 hJ7 => ?_)
        rw [show r8 = bz (0 ≤ k ∧ k ≤ 3) from hJ7.1, hJ7.2]
        refine z_if_eq (tgt := 44) B dX6_isTold_37 (bzB _) (by decide) (fun c37 => ?_) (fun c37 => ?_)
        · rw [bz_0] at c37
          refine z_iconst B dX6_isTold_44 ?_
          refine z_iretz B Rt dX6_isTold_45 (by decide) ?_
          refine ⟨?_, rfl⟩
          unfold bz
          split <;> omega
        · rw [bz_n0] at c37
          refine z_iconst B dX6_isTold_40 ?_
          refine gx_goto (tgt := 45) B dX6_isTold_41 (by decide) ?_
          refine z_iretz B Rt dX6_isTold_45 (by decide) ?_
          refine ⟨?_, rfl⟩
          unfold bz
          split <;> omega

theorem mX6_system {l : Launch} {G : gx_G} (hG : gx_OK G 91) (J : zJ) {a b : Int} (ha : zB a) (hb : zB b) : zMi l G yX6_system cX6_system 3 .int rmX6_system [.ref (gx_ad G 76), .int (zI a), .int (zI b)] J (fun r J' => ((0 ≤ a ∧ a < 12 ∧ 0 ≤ b ∧ b ≤ 63) ∧ r = 1 ∧ J' = zup (zup J 77 0 a) 77 1 b) ∨ (¬ (0 ≤ a ∧ a < 12 ∧ 0 ≤ b ∧ b ≤ 63) ∧ r = -1 ∧ J' = J)) := by
  refine gx_mi hG (by decide) (Nat.le_of_ble_eq_true rfl) (fun X hla B Rt => ?_)
  subst hla
  have B : gx_B G X RX6 cX6_system 3 rmX6_system 91 := B
  show gx_WG G X 3 (zh J) 0 [(0, .ref (gx_ad G 76)), (1, .int (zI a)), (2, .int (zI b))] []
  refine gx_iload_n B dX6_system_0 rfl rfl ?_
  refine gx_iload_n B dX6_system_1 rfl rfl ?_
  refine z_callSi [.int (zI a), .int (zI b)] B ls_X6_56 (mX6_isSystem hG J ha hb) rfl rfl (Nat.le_of_ble_eq_true rfl) (by decide) (by decide) dX6_system_2 (fun r2 J1 hJ1 => ?_)
  rw [show r2 = bz (0 ≤ a ∧ a < 12 ∧ 0 ≤ b ∧ b ≤ 63) from hJ1.1, hJ1.2]
  refine z_if_ne (tgt := 10) B dX6_system_5 (bzB _) (by decide) (fun c5 => ?_) (fun c5 => ?_)
  · rw [bz_n0] at c5
    refine gx_aload_n B dX6_system_10 rfl rfl ?_
    refine gx_getr (t := 77) B fl_X6_7 rfl (by decide) rfl dX6_system_11 ?_
    refine z_iconst B dX6_system_14 ?_
    refine gx_iload_n B dX6_system_15 rfl rfl ?_
    refine z_iast 0 B rfl (by decide) rfl (by decide) (by decide) dX6_system_16 (fun J1 hJ1 => ?_)
    refine gx_aload_n B dX6_system_17 rfl rfl ?_
    refine gx_getr (t := 77) B fl_X6_7 rfl (by decide) rfl dX6_system_18 ?_
    refine z_iconst B dX6_system_21 ?_
    refine gx_iload_n B dX6_system_22 rfl rfl ?_
    refine z_iast 1 B rfl (by decide) rfl (by decide) (by decide) dX6_system_23 (fun J2 hJ2 => ?_)
    refine z_iconst B dX6_system_24 ?_
    refine z_ireti B Rt dX6_system_25 ?_
    exact Or.inl ⟨c5, rfl, by rw [hJ2, hJ1]⟩
  · rw [bz_0] at c5
    refine z_iconst B dX6_system_8 ?_
    refine z_ireti B Rt dX6_system_9 ?_
    exact Or.inr ⟨c5, rfl, rfl⟩

theorem mX6_rootOf {l : Launch} {G : gx_G} (hG : gx_OK G 91) (J : zJ) {b : Int} : zMi l G yX6_rootOf cX6_rootOf 2 .int rmX6_rootOf [.ref (gx_ad G 76), .int (zI b)] J (fun r J' => r = zrem (J 77 0 + 7 * b) 12 ∧ J' = J) := by
  refine gx_mi hG (by decide) (Nat.le_of_ble_eq_true rfl) (fun X hla B Rt => ?_)
  subst hla
  have B : gx_B G X RX6 cX6_rootOf 2 rmX6_rootOf 91 := B
  show gx_WG G X 2 (zh J) 0 [(0, .ref (gx_ad G 76)), (1, .int (zI b))] []
  refine gx_aload_n B dX6_rootOf_0 rfl rfl ?_
  refine gx_getr (t := 77) B fl_X6_7 rfl (by decide) rfl dX6_rootOf_1 ?_
  refine z_iconst B dX6_rootOf_4 ?_
  refine z_iald 0 B rfl (by decide) rfl (by decide) (by decide) dX6_rootOf_5 ?_
  refine z_bipush B dX6_rootOf_6 (by decide) ?_
  refine gx_iload_n B dX6_rootOf_8 rfl rfl ?_
  refine z_imul B dX6_rootOf_9 ?_
  refine z_iadd B dX6_rootOf_10 ?_
  refine z_bipush B dX6_rootOf_11 (by decide) ?_
  refine z_irem B dX6_rootOf_13 (by decide) ?_
  refine z_ireti B Rt dX6_rootOf_14 ?_
  exact ⟨rfl, rfl⟩

theorem mX6_isThere {l : Launch} {G : gx_G} (hG : gx_OK G 91) (J : zJ) {b : Int} : zMi l G yX6_isThere cX6_isThere 2 .boolean rmX6_isThere [.ref (gx_ad G 76), .int (zI b)] J (fun r J' => r = bz (thr (J 77 1) b) ∧ J' = J) := by
  refine gx_mi hG (by decide) (Nat.le_of_ble_eq_true rfl) (fun X hla B Rt => ?_)
  subst hla
  have B : gx_B G X RX6 cX6_isThere 2 rmX6_isThere 91 := B
  show gx_WG G X 2 (zh J) 0 [(0, .ref (gx_ad G 76)), (1, .int (zI b))] []
  refine gx_aload_n B dX6_isThere_0 rfl rfl ?_
  refine gx_getr (t := 77) B fl_X6_7 rfl (by decide) rfl dX6_isThere_1 ?_
  refine z_iconst B dX6_isThere_4 ?_
  refine z_iald 1 B rfl (by decide) rfl (by decide) (by decide) dX6_isThere_5 ?_
  refine gx_iload_n B dX6_isThere_6 rfl rfl ?_
  refine z_bipush B dX6_isThere_7 (by decide) ?_
  refine z_irem B dX6_isThere_9 (by decide) ?_
  refine z_ishr B dX6_isThere_10 ?_
  refine z_iconst B dX6_isThere_11 ?_
  refine z_iand B dX6_isThere_12 ?_
  refine z_iconst B dX6_isThere_13 ?_
  refine z_icmp_ne (tgt := 21) B dX6_isThere_14 (zandB _ _) ⟨by omega, by omega⟩ (by decide) (fun c14 => ?_) (fun c14 => ?_)
  · refine z_iconst B dX6_isThere_21 ?_
    refine z_iretz B Rt dX6_isThere_22 (by decide) ?_
    exact ⟨by first | exact (bz_1.mpr c14).symm | exact (bz_0.mpr c14).symm, rfl⟩
  · refine z_iconst B dX6_isThere_17 ?_
    refine gx_goto (tgt := 22) B dX6_isThere_18 (by decide) ?_
    refine z_iretz B Rt dX6_isThere_22 (by decide) ?_
    exact ⟨by first | exact (bz_1.mpr c14).symm | exact (bz_0.mpr c14).symm, rfl⟩

theorem mX6_soundOf {l : Launch} {G : gx_G} (hG : gx_OK G 91) (J : zJ) {b : Int} : zMi l G yX6_soundOf cX6_soundOf 3 .int rmX6_soundOf [.ref (gx_ad G 76), .int (zI b)] J (fun r J' => r = snd (J 77 0) b ∧ J' = J) := by
  refine gx_mi hG (by decide) (Nat.le_of_ble_eq_true rfl) (fun X hla B Rt => ?_)
  subst hla
  have B : gx_B G X RX6 cX6_soundOf 3 rmX6_soundOf 91 := B
  show gx_WG G X 3 (zh J) 0 [(0, .ref (gx_ad G 76)), (1, .int (zI b))] []
  refine gx_aload_n B dX6_soundOf_0 rfl rfl ?_
  refine gx_iload_n B dX6_soundOf_1 rfl rfl ?_
  refine z_bipush B dX6_soundOf_2 (by decide) ?_
  refine z_idiv B dX6_soundOf_4 (by decide) ?_
  refine z_callVi [.int (zI (zdiv b 6))] B lv_X6_60 (mX6_rootOf hG J (b := zdiv b 6)) rfl (by decide) rfl rfl (Nat.le_of_ble_eq_true rfl) (by decide) (by decide) dX6_soundOf_5 (fun r2 J1 hJ1 => ?_)
  rw [show r2 = zrem (J 77 0 + 7 * (zdiv b 6)) 12 from hJ1.1, hJ1.2]
  refine z_istore_n (fun v9 => [(0, .ref (gx_ad G 76)), (1, .int (zI b)), (2, .int (zI v9))]) B dX6_soundOf_8 rfl (by decide) rfl (fun _ => rfl) (fun rt hrt => ?_)
  refine gx_iload_n B dX6_soundOf_9 rfl rfl ?_
  refine z_bipush B dX6_soundOf_10 (by decide) ?_
  refine z_irem B dX6_soundOf_12 (by decide) ?_
  by_cases sw1 : 0 ≤ zrem b 6 ∧ zrem b 6 ≤ 4
  · have sw1r : zrem b 6 = 0 ∨ zrem b 6 = 1 ∨ zrem b 6 = 2 ∨ zrem b 6 = 3 ∨ zrem b 6 = 4 := by omega
    rcases sw1r with sw1_0 | sw1_1 | sw1_2 | sw1_3 | sw1_4
    · refine z_swIn (off := 35) (tgt := 48) B dX6_soundOf_13 (zremB _ _) (by omega) (by omega) (by rw [sw1_0]; decide) (by decide) ?_
      refine z_iconst B dX6_soundOf_48 ?_
      refine gx_iload_n B dX6_soundOf_49 rfl rfl ?_
      refine z_iconst B dX6_soundOf_50 ?_
      refine z_iadd B dX6_soundOf_51 ?_
      refine z_bipush B dX6_soundOf_52 (by decide) ?_
      refine z_irem B dX6_soundOf_54 (by decide) ?_
      refine z_ishl B dX6_soundOf_55 ?_
      refine z_ireti B Rt dX6_soundOf_56 ?_
      refine ⟨?_, rfl⟩
      rw [hrt]
      simp [snd, sw1_0]
    · refine z_swIn (off := 44) (tgt := 57) B dX6_soundOf_13 (zremB _ _) (by omega) (by omega) (by rw [sw1_1]; decide) (by decide) ?_
      refine z_iconst B dX6_soundOf_57 ?_
      refine gx_iload_n B dX6_soundOf_58 rfl rfl ?_
      refine z_ishl B dX6_soundOf_59 ?_
      refine z_ireti B Rt dX6_soundOf_60 ?_
      refine ⟨?_, rfl⟩
      rw [hrt]
      simp [snd, sw1_1]
    · refine z_swIn (off := 48) (tgt := 61) B dX6_soundOf_13 (zremB _ _) (by omega) (by omega) (by rw [sw1_2]; decide) (by decide) ?_
      refine z_iconst B dX6_soundOf_61 ?_
      refine gx_iload_n B dX6_soundOf_62 rfl rfl ?_
      refine z_ishl B dX6_soundOf_63 ?_
      refine z_iconst B dX6_soundOf_64 ?_
      refine gx_iload_n B dX6_soundOf_65 rfl rfl ?_
      refine z_iconst B dX6_soundOf_66 ?_
      refine z_iadd B dX6_soundOf_67 ?_
      refine z_bipush B dX6_soundOf_68 (by decide) ?_
      refine z_irem B dX6_soundOf_70 (by decide) ?_
      refine z_ishl B dX6_soundOf_71 ?_
      refine z_ior B dX6_soundOf_72 ?_
      refine z_iconst B dX6_soundOf_73 ?_
      refine gx_iload_n B dX6_soundOf_74 rfl rfl ?_
      refine z_bipush B dX6_soundOf_75 (by decide) ?_
      refine z_iadd B dX6_soundOf_77 ?_
      refine z_bipush B dX6_soundOf_78 (by decide) ?_
      refine z_irem B dX6_soundOf_80 (by decide) ?_
      refine z_ishl B dX6_soundOf_81 ?_
      refine z_ior B dX6_soundOf_82 ?_
      refine z_ireti B Rt dX6_soundOf_83 ?_
      refine ⟨?_, rfl⟩
      rw [hrt]
      simp [snd, sw1_2]
    · refine z_swIn (off := 71) (tgt := 84) B dX6_soundOf_13 (zremB _ _) (by omega) (by omega) (by rw [sw1_3]; decide) (by decide) ?_
      refine z_iconst B dX6_soundOf_84 ?_
      refine gx_iload_n B dX6_soundOf_85 rfl rfl ?_
      refine z_ishl B dX6_soundOf_86 ?_
      refine z_iconst B dX6_soundOf_87 ?_
      refine gx_iload_n B dX6_soundOf_88 rfl rfl ?_
      refine z_iconst B dX6_soundOf_89 ?_
      refine z_iadd B dX6_soundOf_90 ?_
      refine z_bipush B dX6_soundOf_91 (by decide) ?_
      refine z_irem B dX6_soundOf_93 (by decide) ?_
      refine z_ishl B dX6_soundOf_94 ?_
      refine z_ior B dX6_soundOf_95 ?_
      refine z_iconst B dX6_soundOf_96 ?_
      refine gx_iload_n B dX6_soundOf_97 rfl rfl ?_
      refine z_bipush B dX6_soundOf_98 (by decide) ?_
      refine z_iadd B dX6_soundOf_100 ?_
      refine z_bipush B dX6_soundOf_101 (by decide) ?_
      refine z_irem B dX6_soundOf_103 (by decide) ?_
      refine z_ishl B dX6_soundOf_104 ?_
      refine z_ior B dX6_soundOf_105 ?_
      refine z_ireti B Rt dX6_soundOf_106 ?_
      refine ⟨?_, rfl⟩
      rw [hrt]
      simp [snd, sw1_3]
    · refine z_swIn (off := 94) (tgt := 107) B dX6_soundOf_13 (zremB _ _) (by omega) (by omega) (by rw [sw1_4]; decide) (by decide) ?_
      refine z_iconst B dX6_soundOf_107 ?_
      refine gx_iload_n B dX6_soundOf_108 rfl rfl ?_
      refine z_ishl B dX6_soundOf_109 ?_
      refine z_iconst B dX6_soundOf_110 ?_
      refine gx_iload_n B dX6_soundOf_111 rfl rfl ?_
      refine z_iconst B dX6_soundOf_112 ?_
      refine z_iadd B dX6_soundOf_113 ?_
      refine z_bipush B dX6_soundOf_114 (by decide) ?_
      refine z_irem B dX6_soundOf_116 (by decide) ?_
      refine z_ishl B dX6_soundOf_117 ?_
      refine z_ior B dX6_soundOf_118 ?_
      refine z_iconst B dX6_soundOf_119 ?_
      refine gx_iload_n B dX6_soundOf_120 rfl rfl ?_
      refine z_bipush B dX6_soundOf_121 (by decide) ?_
      refine z_iadd B dX6_soundOf_123 ?_
      refine z_bipush B dX6_soundOf_124 (by decide) ?_
      refine z_irem B dX6_soundOf_126 (by decide) ?_
      refine z_ishl B dX6_soundOf_127 ?_
      refine z_ior B dX6_soundOf_128 ?_
      refine z_ireti B Rt dX6_soundOf_129 ?_
      refine ⟨?_, rfl⟩
      rw [hrt]
      simp [snd, sw1_4]
  · refine z_swOut (tgt := 130) B dX6_soundOf_13 (zremB _ _) (by omega) (by decide) ?_
    refine z_iconst B dX6_soundOf_130 ?_
    refine gx_iload_n B dX6_soundOf_131 rfl rfl ?_
    refine z_ishl B dX6_soundOf_132 ?_
    refine z_iconst B dX6_soundOf_133 ?_
    refine gx_iload_n B dX6_soundOf_134 rfl rfl ?_
    refine z_iconst B dX6_soundOf_135 ?_
    refine z_iadd B dX6_soundOf_136 ?_
    refine z_bipush B dX6_soundOf_137 (by decide) ?_
    refine z_irem B dX6_soundOf_139 (by decide) ?_
    refine z_ishl B dX6_soundOf_140 ?_
    refine z_ior B dX6_soundOf_141 ?_
    refine z_iconst B dX6_soundOf_142 ?_
    refine gx_iload_n B dX6_soundOf_143 rfl rfl ?_
    refine z_bipush B dX6_soundOf_144 (by decide) ?_
    refine z_iadd B dX6_soundOf_146 ?_
    refine z_bipush B dX6_soundOf_147 (by decide) ?_
    refine z_irem B dX6_soundOf_149 (by decide) ?_
    refine z_ishl B dX6_soundOf_150 ?_
    refine z_ior B dX6_soundOf_151 ?_
    refine z_ireti B Rt dX6_soundOf_152 ?_
    refine ⟨?_, rfl⟩
    rw [hrt]
    have g0 : ¬ zrem b 6 = 0 := by omega
    have g1 : ¬ zrem b 6 = 1 := by omega
    have g2 : ¬ zrem b 6 = 2 := by omega
    have g3 : ¬ zrem b 6 = 3 := by omega
    have g4 : ¬ zrem b 6 = 4 := by omega
    simp [snd, g0, g1, g2, g3, g4]

theorem mX6_sound {l : Launch} {G : gx_G} (hG : gx_OK G 91) (J : zJ) {b : Int} (hb : zB b) : zMi l G yX6_sound cX6_sound 2 .int rmX6_sound [.ref (gx_ad G 76), .int (zI b)] J (fun r J' => ((0 ≤ b ∧ b < 72 → r = if thr (J 77 1) b then snd (J 77 0) b else -3) ∧ (¬ (0 ≤ b ∧ b < 72) → r = -1)) ∧ J' = J) := by
  refine gx_mi hG (by decide) (Nat.le_of_ble_eq_true rfl) (fun X hla B Rt => ?_)
  subst hla
  have B : gx_B G X RX6 cX6_sound 2 rmX6_sound 91 := B
  show gx_WG G X 2 (zh J) 0 [(0, .ref (gx_ad G 76)), (1, .int (zI b))] []
  refine gx_iload_n B dX6_sound_0 rfl rfl ?_
  refine z_iconst B dX6_sound_1 ?_
  refine z_bipush B dX6_sound_2 (by decide) ?_
  refine z_callSi [.int (zI b), .int (zI 0), .int (zI 71)] B ls_X6_52 (mX6_in hG J (v := b) (a := 0) (b := 71) ⟨by omega, by omega⟩ ⟨by omega, by omega⟩ ⟨by omega, by omega⟩) rfl rfl (Nat.le_of_ble_eq_true rfl) (by decide) (by decide) dX6_sound_4 (fun r2 J1 hJ1 => ?_)
  rw [show r2 = bz (0 ≤ b ∧ b ≤ 71) from hJ1.1, hJ1.2]
  refine z_if_ne (tgt := 12) B dX6_sound_7 (bzB _) (by decide) (fun c7 => ?_) (fun c7 => ?_)
  · rw [bz_n0] at c7
    refine gx_aload_n B dX6_sound_12 rfl rfl ?_
    refine gx_iload_n B dX6_sound_13 rfl rfl ?_
    refine z_callVi [.int (zI b)] B lv_X6_64 (mX6_isThere hG J (b := b)) rfl (by decide) rfl rfl (Nat.le_of_ble_eq_true rfl) (by decide) (by decide) dX6_sound_14 (fun r4 J3 hJ3 => ?_)
    rw [show r4 = bz (thr (J 77 1) b) from hJ3.1, hJ3.2]
    refine z_if_eq (tgt := 28) B dX6_sound_17 (bzB _) (by decide) (fun c17 => ?_) (fun c17 => ?_)
    · rw [bz_0] at c17
      refine z_bipush B dX6_sound_28 (by decide) ?_
      refine z_ireti B Rt dX6_sound_30 ?_
      exact ⟨⟨fun _ => by first | rw [if_pos c17] | rw [if_neg c17], fun q => absurd ⟨by omega, by omega⟩ q⟩, rfl⟩
    · rw [bz_n0] at c17
      refine gx_aload_n B dX6_sound_20 rfl rfl ?_
      refine gx_iload_n B dX6_sound_21 rfl rfl ?_
      refine z_callVi [.int (zI b)] B lv_X6_68 (mX6_soundOf hG J (b := b)) rfl (by decide) rfl rfl (Nat.le_of_ble_eq_true rfl) (by decide) (by decide) dX6_sound_22 (fun r6 J5 hJ5 => ?_)
      rw [show r6 = snd (J 77 0) b from hJ5.1, hJ5.2]
      refine gx_goto (tgt := 30) B dX6_sound_25 (by decide) ?_
      refine z_ireti B Rt dX6_sound_30 ?_
      exact ⟨⟨fun _ => by first | rw [if_pos c17] | rw [if_neg c17], fun q => absurd ⟨by omega, by omega⟩ q⟩, rfl⟩
  · rw [bz_0] at c7
    refine z_iconst B dX6_sound_10 ?_
    refine z_ireti B Rt dX6_sound_11 ?_
    exact ⟨⟨fun q => by omega, fun _ => rfl⟩, rfl⟩

theorem mX6_root {l : Launch} {G : gx_G} (hG : gx_OK G 91) (J : zJ) {b : Int} (hb : zB b) : zMi l G yX6_root cX6_root 2 .int rmX6_root [.ref (gx_ad G 76), .int (zI b)] J (fun r J' => ((0 ≤ b ∧ b < 12 → r = zrem (J 77 0 + 7 * b) 12) ∧ (¬ (0 ≤ b ∧ b < 12) → r = -1)) ∧ J' = J) := by
  refine gx_mi hG (by decide) (Nat.le_of_ble_eq_true rfl) (fun X hla B Rt => ?_)
  subst hla
  have B : gx_B G X RX6 cX6_root 2 rmX6_root 91 := B
  show gx_WG G X 2 (zh J) 0 [(0, .ref (gx_ad G 76)), (1, .int (zI b))] []
  refine gx_iload_n B dX6_root_0 rfl rfl ?_
  refine z_iconst B dX6_root_1 ?_
  refine z_bipush B dX6_root_2 (by decide) ?_
  refine z_callSi [.int (zI b), .int (zI 0), .int (zI 11)] B ls_X6_52 (mX6_in hG J (v := b) (a := 0) (b := 11) ⟨by omega, by omega⟩ ⟨by omega, by omega⟩ ⟨by omega, by omega⟩) rfl rfl (Nat.le_of_ble_eq_true rfl) (by decide) (by decide) dX6_root_4 (fun r2 J1 hJ1 => ?_)
  rw [show r2 = bz (0 ≤ b ∧ b ≤ 11) from hJ1.1, hJ1.2]
  refine z_if_eq (tgt := 18) B dX6_root_7 (bzB _) (by decide) (fun c7 => ?_) (fun c7 => ?_)
  · rw [bz_0] at c7
    refine z_iconst B dX6_root_18 ?_
    refine z_ireti B Rt dX6_root_19 ?_
    exact ⟨⟨fun q => by first | rfl | (exfalso; omega), fun q => by first | rfl | (exfalso; omega)⟩, rfl⟩
  · rw [bz_n0] at c7
    refine gx_aload_n B dX6_root_10 rfl rfl ?_
    refine gx_iload_n B dX6_root_11 rfl rfl ?_
    refine z_callVi [.int (zI b)] B lv_X6_60 (mX6_rootOf hG J (b := b)) rfl (by decide) rfl rfl (Nat.le_of_ble_eq_true rfl) (by decide) (by decide) dX6_root_12 (fun r4 J3 hJ3 => ?_)
    rw [show r4 = zrem (J 77 0 + 7 * b) 12 from hJ3.1, hJ3.2]
    refine gx_goto (tgt := 19) B dX6_root_15 (by decide) ?_
    refine z_ireti B Rt dX6_root_19 ?_
    exact ⟨⟨fun q => by first | rfl | (exfalso; omega), fun q => by first | rfl | (exfalso; omega)⟩, rfl⟩

theorem mX6_rule {l : Launch} {G : gx_G} (hG : gx_OK G 91) (J : zJ) {n : Nat} (hM : VM J n) {w v : Int} (hw : zB w) (hv : zB v) : zMi l G yX6_rule cX6_rule 5 .int rmX6_rule [.ref (gx_ad G 76), .int (zI w), .int (zI v)] J (fun r J' => (((w = 0 ∧ 1 ≤ v ∧ v ≤ 3) ∨ (w = 1 ∧ 1 ≤ v ∧ v ≤ 400 ∧ J 77 4 ≤ v) ∨ (w = 2 ∧ 0 ≤ v ∧ v ≤ J 77 3)) ∧ r = J 77 (2 + w.toNat) ∧ J' = zup J 77 (2 + w.toNat) v) ∨ (¬ ((w = 0 ∧ 1 ≤ v ∧ v ≤ 3) ∨ (w = 1 ∧ 1 ≤ v ∧ v ≤ 400 ∧ J 77 4 ≤ v) ∨ (w = 2 ∧ 0 ≤ v ∧ v ≤ J 77 3)) ∧ r = -1 ∧ J' = J)) := by
  refine gx_mi hG (by decide) (Nat.le_of_ble_eq_true rfl) (fun X hla B Rt => ?_)
  subst hla
  have B : gx_B G X RX6 cX6_rule 5 rmX6_rule 91 := B
  show gx_WG G X 5 (zh J) 0 [(0, .ref (gx_ad G 76)), (1, .int (zI w)), (2, .int (zI v))] []
  obtain ⟨v1, v2, v3, v4, v5, ⟨h5, h8⟩, v7, v8⟩ := id hM
  refine gx_iload_n B dX6_rule_0 rfl rfl ?_
  refine z_if_ne (tgt := 13) B dX6_rule_1 ⟨by omega, by omega⟩ (by decide) (fun c1_1 => ?_) (fun c1_1 => ?_)
  · refine gx_iload_n B dX6_rule_13 rfl rfl ?_
    refine z_iconst B dX6_rule_14 ?_
    refine z_icmp_ne (tgt := 47) B dX6_rule_15 ⟨by omega, by omega⟩ ⟨by omega, by omega⟩ (by decide) (fun c15_2 => ?_) (fun c15_2 => ?_)
    · refine gx_iload_n B dX6_rule_47 rfl rfl ?_
      refine z_iconst B dX6_rule_48 ?_
      refine z_icmp_ne (tgt := 70) B dX6_rule_49 ⟨by omega, by omega⟩ ⟨by omega, by omega⟩ (by decide) (fun c49_3 => ?_) (fun c49_3 => ?_)
      · refine z_iconst B dX6_rule_70 ?_
        refine z_istore_n (fun v9 => [(0, .ref (gx_ad G 76)), (1, .int (zI w)), (2, .int (zI v)), (3, .int (zI v9))]) B dX6_rule_71 rfl (by decide) rfl (fun _ => rfl) (fun v9 hv9 => ?_)
        rw [hv9]
        refine gx_iload_n B dX6_rule_72 rfl rfl ?_
        refine z_if_ne (tgt := 78) B dX6_rule_73 (by first | decide | exact (bzB _)) (by decide) (fun c73 => ?_) (fun c73 => ?_)
        · exact absurd c73 (by decide)
        · refine z_iconst B dX6_rule_76 ?_
          refine z_ireti B Rt dX6_rule_77 ?_
          exact Or.inr ⟨by omega, rfl, rfl⟩
      · refine gx_iload_n B dX6_rule_52 rfl rfl ?_
        refine z_iconst B dX6_rule_53 ?_
        refine gx_aload_n B dX6_rule_54 rfl rfl ?_
        refine gx_getr (t := 77) B fl_X6_7 rfl (by decide) rfl dX6_rule_55 ?_
        refine z_iconst B dX6_rule_58 ?_
        refine z_iald 3 B rfl (by decide) rfl (by decide) (by decide) dX6_rule_59 ?_
        refine z_callSi [.int (zI v), .int (zI 0), .int (zI (J 77 3))] B ls_X6_52 (mX6_in hG J (v := v) (a := 0) (b := J 77 3) ⟨by omega, by omega⟩ ⟨by omega, by omega⟩ ⟨by omega, by omega⟩) rfl rfl (Nat.le_of_ble_eq_true rfl) (by decide) (by decide) dX6_rule_60 (fun r5 J4 hJ4 => ?_)
        rw [show r5 = bz (0 ≤ v ∧ v ≤ J 77 3) from hJ4.1, hJ4.2]
        refine z_if_eq (tgt := 70) B dX6_rule_63 (bzB _) (by decide) (fun c63 => ?_) (fun c63 => ?_)
        · rw [bz_0] at c63
          refine z_iconst B dX6_rule_70 ?_
          refine z_istore_n (fun v9 => [(0, .ref (gx_ad G 76)), (1, .int (zI w)), (2, .int (zI v)), (3, .int (zI v9))]) B dX6_rule_71 rfl (by decide) rfl (fun _ => rfl) (fun v9 hv9 => ?_)
          rw [hv9]
          refine gx_iload_n B dX6_rule_72 rfl rfl ?_
          refine z_if_ne (tgt := 78) B dX6_rule_73 (by first | decide | exact (bzB _)) (by decide) (fun c73 => ?_) (fun c73 => ?_)
          · exact absurd c73 (by decide)
          · refine z_iconst B dX6_rule_76 ?_
            refine z_ireti B Rt dX6_rule_77 ?_
            exact Or.inr ⟨by omega, rfl, rfl⟩
        · rw [bz_n0] at c63
          refine z_iconst B dX6_rule_66 ?_
          refine gx_goto (tgt := 71) B dX6_rule_67 (by decide) ?_
          refine z_istore_n (fun v9 => [(0, .ref (gx_ad G 76)), (1, .int (zI w)), (2, .int (zI v)), (3, .int (zI v9))]) B dX6_rule_71 rfl (by decide) rfl (fun _ => rfl) (fun v9 hv9 => ?_)
          rw [hv9]
          refine gx_iload_n B dX6_rule_72 rfl rfl ?_
          refine z_if_ne (tgt := 78) B dX6_rule_73 (by first | decide | exact (bzB _)) (by decide) (fun c73 => ?_) (fun c73 => ?_)
          · refine gx_aload_n B dX6_rule_78 rfl rfl ?_
            refine gx_getr (t := 77) B fl_X6_7 rfl (by decide) rfl dX6_rule_79 ?_
            refine z_iconst B dX6_rule_82 ?_
            refine gx_iload_n B dX6_rule_83 rfl rfl ?_
            refine z_iadd B dX6_rule_84 ?_
            refine z_iald (2 + w.toNat) B rfl (by decide) (by omega) (by omega) (by decide) dX6_rule_85 ?_
            refine z_istore (fun v9 => [(0, .ref (gx_ad G 76)), (1, .int (zI w)), (2, .int (zI v)), (3, .int (zI 1)), (4, .int (zI v9))]) B dX6_rule_86 (by decide) rfl (fun _ => rfl) (fun v9 hv9 => ?_)
            rw [hv9]
            refine gx_aload_n B dX6_rule_88 rfl rfl ?_
            refine gx_getr (t := 77) B fl_X6_7 rfl (by decide) rfl dX6_rule_89 ?_
            refine z_iconst B dX6_rule_92 ?_
            refine gx_iload_n B dX6_rule_93 rfl rfl ?_
            refine z_iadd B dX6_rule_94 ?_
            refine gx_iload_n B dX6_rule_95 rfl rfl ?_
            refine z_iast (2 + w.toNat) B rfl (by decide) (by omega) (by omega) (by decide) dX6_rule_96 (fun J1 hJ1 => ?_)
            refine gx_iload B dX6_rule_97 rfl ?_
            refine z_ireti B Rt dX6_rule_99 ?_
            exact Or.inl ⟨by omega, rfl, hJ1⟩
          · exact absurd c73 (by decide)
    · refine gx_iload_n B dX6_rule_18 rfl rfl ?_
      refine z_iconst B dX6_rule_19 ?_
      refine z_icmp_lt (tgt := 43) B dX6_rule_20 ⟨by omega, by omega⟩ ⟨by omega, by omega⟩ (by decide) (fun c20_6 => ?_) (fun c20_6 => ?_)
      · refine z_iconst B dX6_rule_43 ?_
        refine gx_goto (tgt := 71) B dX6_rule_44 (by decide) ?_
        refine z_istore_n (fun v9 => [(0, .ref (gx_ad G 76)), (1, .int (zI w)), (2, .int (zI v)), (3, .int (zI v9))]) B dX6_rule_71 rfl (by decide) rfl (fun _ => rfl) (fun v9 hv9 => ?_)
        rw [hv9]
        refine gx_iload_n B dX6_rule_72 rfl rfl ?_
        refine z_if_ne (tgt := 78) B dX6_rule_73 (by first | decide | exact (bzB _)) (by decide) (fun c73 => ?_) (fun c73 => ?_)
        · exact absurd c73 (by decide)
        · refine z_iconst B dX6_rule_76 ?_
          refine z_ireti B Rt dX6_rule_77 ?_
          exact Or.inr ⟨by omega, rfl, rfl⟩
      · refine gx_iload_n B dX6_rule_23 rfl rfl ?_
        refine gx_aload_n B dX6_rule_24 rfl rfl ?_
        refine gx_getr (t := 77) B fl_X6_7 rfl (by decide) rfl dX6_rule_25 ?_
        refine z_iconst B dX6_rule_28 ?_
        refine z_iald 4 B rfl (by decide) rfl (by decide) (by decide) dX6_rule_29 ?_
        refine z_sipush B dX6_rule_30 (by decide) ?_
        refine z_callSi [.int (zI v), .int (zI (J 77 4)), .int (zI 400)] B ls_X6_52 (mX6_in hG J (v := v) (a := J 77 4) (b := 400) ⟨by omega, by omega⟩ ⟨by omega, by omega⟩ ⟨by omega, by omega⟩) rfl rfl (Nat.le_of_ble_eq_true rfl) (by decide) (by decide) dX6_rule_33 (fun r8 J7 hJ7 => ?_)
        rw [show r8 = bz (J 77 4 ≤ v ∧ v ≤ 400) from hJ7.1, hJ7.2]
        refine z_if_eq (tgt := 43) B dX6_rule_36 (bzB _) (by decide) (fun c36 => ?_) (fun c36 => ?_)
        · rw [bz_0] at c36
          refine z_iconst B dX6_rule_43 ?_
          refine gx_goto (tgt := 71) B dX6_rule_44 (by decide) ?_
          refine z_istore_n (fun v9 => [(0, .ref (gx_ad G 76)), (1, .int (zI w)), (2, .int (zI v)), (3, .int (zI v9))]) B dX6_rule_71 rfl (by decide) rfl (fun _ => rfl) (fun v9 hv9 => ?_)
          rw [hv9]
          refine gx_iload_n B dX6_rule_72 rfl rfl ?_
          refine z_if_ne (tgt := 78) B dX6_rule_73 (by first | decide | exact (bzB _)) (by decide) (fun c73 => ?_) (fun c73 => ?_)
          · exact absurd c73 (by decide)
          · refine z_iconst B dX6_rule_76 ?_
            refine z_ireti B Rt dX6_rule_77 ?_
            exact Or.inr ⟨by omega, rfl, rfl⟩
        · rw [bz_n0] at c36
          refine z_iconst B dX6_rule_39 ?_
          refine gx_goto (tgt := 71) B dX6_rule_40 (by decide) ?_
          refine z_istore_n (fun v9 => [(0, .ref (gx_ad G 76)), (1, .int (zI w)), (2, .int (zI v)), (3, .int (zI v9))]) B dX6_rule_71 rfl (by decide) rfl (fun _ => rfl) (fun v9 hv9 => ?_)
          rw [hv9]
          refine gx_iload_n B dX6_rule_72 rfl rfl ?_
          refine z_if_ne (tgt := 78) B dX6_rule_73 (by first | decide | exact (bzB _)) (by decide) (fun c73 => ?_) (fun c73 => ?_)
          · refine gx_aload_n B dX6_rule_78 rfl rfl ?_
            refine gx_getr (t := 77) B fl_X6_7 rfl (by decide) rfl dX6_rule_79 ?_
            refine z_iconst B dX6_rule_82 ?_
            refine gx_iload_n B dX6_rule_83 rfl rfl ?_
            refine z_iadd B dX6_rule_84 ?_
            refine z_iald (2 + w.toNat) B rfl (by decide) (by omega) (by omega) (by decide) dX6_rule_85 ?_
            refine z_istore (fun v9 => [(0, .ref (gx_ad G 76)), (1, .int (zI w)), (2, .int (zI v)), (3, .int (zI 1)), (4, .int (zI v9))]) B dX6_rule_86 (by decide) rfl (fun _ => rfl) (fun v9 hv9 => ?_)
            rw [hv9]
            refine gx_aload_n B dX6_rule_88 rfl rfl ?_
            refine gx_getr (t := 77) B fl_X6_7 rfl (by decide) rfl dX6_rule_89 ?_
            refine z_iconst B dX6_rule_92 ?_
            refine gx_iload_n B dX6_rule_93 rfl rfl ?_
            refine z_iadd B dX6_rule_94 ?_
            refine gx_iload_n B dX6_rule_95 rfl rfl ?_
            refine z_iast (2 + w.toNat) B rfl (by decide) (by omega) (by omega) (by decide) dX6_rule_96 (fun J1 hJ1 => ?_)
            refine gx_iload B dX6_rule_97 rfl ?_
            refine z_ireti B Rt dX6_rule_99 ?_
            exact Or.inl ⟨by omega, rfl, hJ1⟩
          · exact absurd c73 (by decide)
  · refine gx_iload_n B dX6_rule_4 rfl rfl ?_
    refine z_iconst B dX6_rule_5 ?_
    refine z_iconst B dX6_rule_6 ?_
    refine z_callSi [.int (zI v), .int (zI 1), .int (zI 3)] B ls_X6_52 (mX6_in hG J (v := v) (a := 1) (b := 3) ⟨by omega, by omega⟩ ⟨by omega, by omega⟩ ⟨by omega, by omega⟩) rfl rfl (Nat.le_of_ble_eq_true rfl) (by decide) (by decide) dX6_rule_7 (fun r10 J9 hJ9 => ?_)
    rw [show r10 = bz (1 ≤ v ∧ v ≤ 3) from hJ9.1, hJ9.2]
    refine gx_goto (tgt := 71) B dX6_rule_10 (by decide) ?_
    refine z_istore_n (fun v9 => [(0, .ref (gx_ad G 76)), (1, .int (zI w)), (2, .int (zI v)), (3, .int (zI v9))]) B dX6_rule_71 rfl (by decide) rfl (fun _ => rfl) (fun v9 hv9 => ?_)
    rw [hv9]
    refine gx_iload_n B dX6_rule_72 rfl rfl ?_
    refine z_if_ne (tgt := 78) B dX6_rule_73 (by first | decide | exact (bzB _)) (by decide) (fun c73 => ?_) (fun c73 => ?_)
    · rw [bz_n0] at c73
      refine gx_aload_n B dX6_rule_78 rfl rfl ?_
      refine gx_getr (t := 77) B fl_X6_7 rfl (by decide) rfl dX6_rule_79 ?_
      refine z_iconst B dX6_rule_82 ?_
      refine gx_iload_n B dX6_rule_83 rfl rfl ?_
      refine z_iadd B dX6_rule_84 ?_
      refine z_iald (2 + w.toNat) B rfl (by decide) (by omega) (by omega) (by decide) dX6_rule_85 ?_
      refine z_istore (fun v9 => [(0, .ref (gx_ad G 76)), (1, .int (zI w)), (2, .int (zI v)), (3, .int (zI (bz (1 ≤ v ∧ v ≤ 3)))), (4, .int (zI v9))]) B dX6_rule_86 (by decide) rfl (fun _ => rfl) (fun v9 hv9 => ?_)
      rw [hv9]
      refine gx_aload_n B dX6_rule_88 rfl rfl ?_
      refine gx_getr (t := 77) B fl_X6_7 rfl (by decide) rfl dX6_rule_89 ?_
      refine z_iconst B dX6_rule_92 ?_
      refine gx_iload_n B dX6_rule_93 rfl rfl ?_
      refine z_iadd B dX6_rule_94 ?_
      refine gx_iload_n B dX6_rule_95 rfl rfl ?_
      refine z_iast (2 + w.toNat) B rfl (by decide) (by omega) (by omega) (by decide) dX6_rule_96 (fun J1 hJ1 => ?_)
      refine gx_iload B dX6_rule_97 rfl ?_
      refine z_ireti B Rt dX6_rule_99 ?_
      exact Or.inl ⟨by omega, rfl, hJ1⟩
    · rw [bz_0] at c73
      refine z_iconst B dX6_rule_76 ?_
      refine z_ireti B Rt dX6_rule_77 ?_
      exact Or.inr ⟨by omega, rfl, rfl⟩


def ptM (J : zJ) (b : Nat) (c e q k : Int) : zJ := zup (zup (zup (zup J 78 (4 * b) c) 78 (4 * b + 1) e) 78 (4 * b + 2) q) 78 (4 * b + 3) k

theorem mX6_put {l : Launch} {G : gx_G} (hG : gx_OK G 91) (J : zJ) {b : Nat} (hb : b < 8) {c e q k : Int} : zMv l G yX6_put cX6_put 6 rmX6_put [.ref (gx_ad G 76), .int (zI (b : Int)), .int (zI c), .int (zI e), .int (zI q), .int (zI k)] J (fun J' => J' = ptM J b c e q k) := by
  refine gx_mv hG (by decide) (Nat.le_of_ble_eq_true rfl) (fun X hla B Rt => ?_)
  subst hla
  have B : gx_B G X RX6 cX6_put 6 rmX6_put 91 := B
  show gx_WG G X 6 (zh J) 0 [(0, .ref (gx_ad G 76)), (1, .int (zI (b : Int))), (2, .int (zI c)), (3, .int (zI e)), (4, .int (zI q)), (5, .int (zI k))] []
  refine gx_aload_n B dX6_put_0 rfl rfl ?_
  refine gx_getr (t := 78) B fl_X6_13 rfl (by decide) rfl dX6_put_1 ?_
  refine z_iconst B dX6_put_4 ?_
  refine gx_iload_n B dX6_put_5 rfl rfl ?_
  refine z_imul B dX6_put_6 ?_
  refine gx_iload_n B dX6_put_7 rfl rfl ?_
  refine z_iast (4 * b) B rfl (by decide) (by omega) (show 4 * b + 0 < 32 by omega) (by decide) dX6_put_8 (fun J1 hJ1 => ?_)
  refine gx_aload_n B dX6_put_9 rfl rfl ?_
  refine gx_getr (t := 78) B fl_X6_13 rfl (by decide) rfl dX6_put_10 ?_
  refine z_iconst B dX6_put_13 ?_
  refine gx_iload_n B dX6_put_14 rfl rfl ?_
  refine z_imul B dX6_put_15 ?_
  refine z_iconst B dX6_put_16 ?_
  refine z_iadd B dX6_put_17 ?_
  refine gx_iload_n B dX6_put_18 rfl rfl ?_
  refine z_iast (4 * b + 1) B rfl (by decide) (by omega) (show 4 * b + 1 < 32 by omega) (by decide) dX6_put_19 (fun J2 hJ2 => ?_)
  refine gx_aload_n B dX6_put_20 rfl rfl ?_
  refine gx_getr (t := 78) B fl_X6_13 rfl (by decide) rfl dX6_put_21 ?_
  refine z_iconst B dX6_put_24 ?_
  refine gx_iload_n B dX6_put_25 rfl rfl ?_
  refine z_imul B dX6_put_26 ?_
  refine z_iconst B dX6_put_27 ?_
  refine z_iadd B dX6_put_28 ?_
  refine gx_iload B dX6_put_29 rfl ?_
  refine z_iast (4 * b + 2) B rfl (by decide) (by omega) (show 4 * b + 2 < 32 by omega) (by decide) dX6_put_31 (fun J3 hJ3 => ?_)
  refine gx_aload_n B dX6_put_32 rfl rfl ?_
  refine gx_getr (t := 78) B fl_X6_13 rfl (by decide) rfl dX6_put_33 ?_
  refine z_iconst B dX6_put_36 ?_
  refine gx_iload_n B dX6_put_37 rfl rfl ?_
  refine z_imul B dX6_put_38 ?_
  refine z_iconst B dX6_put_39 ?_
  refine z_iadd B dX6_put_40 ?_
  refine gx_iload B dX6_put_41 rfl ?_
  refine z_iast (4 * b + 3) B rfl (by decide) (by omega) (show 4 * b + 3 < 32 by omega) (by decide) dX6_put_43 (fun J4 hJ4 => ?_)
  refine z_ret B Rt dX6_put_44 ?_
  rw [hJ4, hJ3, hJ2, hJ1]
  rfl

theorem mX6_beat {l : Launch} {G : gx_G} (hG : gx_OK G 91) (J : zJ) {n : Nat} (hM : VM J n) {c e q k : Int} (hc : zB c) (he : zB e) (hq : zB q) (hk : zB k) : zMi l G yX6_beat cX6_beat 5 .int rmX6_beat [.ref (gx_ad G 76), .int (zI c), .int (zI e), .int (zI q), .int (zI k)] J (fun r J' => ((((0 ≤ c ∧ c ≤ 4095) ∧ (-1 ≤ e ∧ e ≤ 11) ∧ (1 ≤ q ∧ q ≤ 8) ∧ (0 ≤ k ∧ k ≤ 3)) ∧ n < 8) ∧ r = (n : Int) ∧ J' = zup (ptM J n c e q k) 77 5 ((n + 1 : Nat) : Int)) ∨ (¬ ((0 ≤ c ∧ c ≤ 4095) ∧ (-1 ≤ e ∧ e ≤ 11) ∧ (1 ≤ q ∧ q ≤ 8) ∧ (0 ≤ k ∧ k ≤ 3)) ∧ r = -1 ∧ J' = J) ∨ ((((0 ≤ c ∧ c ≤ 4095) ∧ (-1 ≤ e ∧ e ≤ 11) ∧ (1 ≤ q ∧ q ≤ 8) ∧ (0 ≤ k ∧ k ≤ 3)) ∧ n = 8) ∧ r = -2 ∧ J' = J)) := by
  refine gx_mi hG (by decide) (Nat.le_of_ble_eq_true rfl) (fun X hla B Rt => ?_)
  subst hla
  have B : gx_B G X RX6 cX6_beat 5 rmX6_beat 91 := B
  show gx_WG G X 5 (zh J) 0 [(0, .ref (gx_ad G 76)), (1, .int (zI c)), (2, .int (zI e)), (3, .int (zI q)), (4, .int (zI k))] []
  obtain ⟨v1, v2, v3, v4, v5, ⟨h5, h8⟩, v7, v8⟩ := id hM
  refine gx_iload_n B dX6_beat_0 rfl rfl ?_
  refine gx_iload_n B dX6_beat_1 rfl rfl ?_
  refine gx_iload_n B dX6_beat_2 rfl rfl ?_
  refine gx_iload B dX6_beat_3 rfl ?_
  refine z_callSi [.int (zI c), .int (zI e), .int (zI q), .int (zI k)] B ls_X6_71 (mX6_isTold hG J hc he hq hk) rfl rfl (Nat.le_of_ble_eq_true rfl) (by decide) (by decide) dX6_beat_5 (fun r2 J1 hJ1 => ?_)
  rw [show r2 = bz ((0 ≤ c ∧ c ≤ 4095) ∧ (-1 ≤ e ∧ e ≤ 11) ∧ (1 ≤ q ∧ q ≤ 8) ∧ (0 ≤ k ∧ k ≤ 3)) from hJ1.1, hJ1.2]
  refine z_if_ne (tgt := 13) B dX6_beat_8 (bzB _) (by decide) (fun c8 => ?_) (fun c8 => ?_)
  · rw [bz_n0] at c8
    refine gx_aload_n B dX6_beat_13 rfl rfl ?_
    refine gx_getr (t := 77) B fl_X6_7 rfl (by decide) rfl dX6_beat_14 ?_
    refine z_iconst B dX6_beat_17 ?_
    refine z_iald 5 B rfl (by decide) rfl (by decide) (by decide) dX6_beat_18 ?_
    refine z_bipush B dX6_beat_19 (by decide) ?_
    refine z_icmp_ne (tgt := 27) B dX6_beat_21 ⟨by omega, by omega⟩ ⟨by omega, by omega⟩ (by decide) (fun c21 => ?_) (fun c21 => ?_)
    · refine gx_aload_n B dX6_beat_27 rfl rfl ?_
      refine gx_aload_n B dX6_beat_28 rfl rfl ?_
      refine gx_getr (t := 77) B fl_X6_7 rfl (by decide) rfl dX6_beat_29 ?_
      refine z_iconst B dX6_beat_32 ?_
      refine z_iald 5 B rfl (by decide) rfl (by decide) (by decide) dX6_beat_33 ?_
      rw [show J 77 5 = (n : Int) from h5]
      refine gx_iload_n B dX6_beat_34 rfl rfl ?_
      refine gx_iload_n B dX6_beat_35 rfl rfl ?_
      refine gx_iload_n B dX6_beat_36 rfl rfl ?_
      refine gx_iload B dX6_beat_37 rfl ?_
      refine z_callVv [.int (zI (n : Int)), .int (zI c), .int (zI e), .int (zI q), .int (zI k)] B lv_X6_75 (mX6_put hG J (b := n) (by omega) (c := c) (e := e) (q := q) (k := k)) rfl (by decide) rfl rfl (Nat.le_of_ble_eq_true rfl) (by decide) (by decide) dX6_beat_39 (fun J1 hJ1 => ?_)
      have e5 : J1 77 5 = (n : Int) := by rw [hJ1]; unfold ptM; rw [zup_ne (by omega), zup_ne (by omega), zup_ne (by omega), zup_ne (by omega)]; exact h5
      refine gx_aload_n B dX6_beat_42 rfl rfl ?_
      refine gx_getr (t := 77) B fl_X6_7 rfl (by decide) rfl dX6_beat_43 ?_
      refine z_iconst B dX6_beat_46 ?_
      refine gx_dup2 B dX6_beat_47 rfl rfl ?_
      refine z_iald 5 B rfl (by decide) rfl (by decide) (by decide) dX6_beat_48 ?_
      refine z_iconst B dX6_beat_49 ?_
      refine z_iadd B dX6_beat_50 ?_
      refine z_iast 5 B rfl (by decide) rfl (by decide) (by decide) dX6_beat_51 (fun J2 hJ2 => ?_)
      refine gx_aload_n B dX6_beat_52 rfl rfl ?_
      refine gx_getr (t := 77) B fl_X6_7 rfl (by decide) rfl dX6_beat_53 ?_
      refine z_iconst B dX6_beat_56 ?_
      refine z_iald 5 B rfl (by decide) rfl (by decide) (by decide) dX6_beat_57 ?_
      refine z_iconst B dX6_beat_58 ?_
      refine z_isub B dX6_beat_59 ?_
      refine z_ireti B Rt dX6_beat_60 ?_
      refine Or.inl ⟨⟨c8, by omega⟩, ?_, ?_⟩
      · rw [hJ2, zup_self]; omega
      · rw [hJ2, e5, hJ1]; rfl
    · refine z_bipush B dX6_beat_24 (by decide) ?_
      refine z_ireti B Rt dX6_beat_26 ?_
      exact Or.inr (Or.inr ⟨⟨c8, by omega⟩, rfl, rfl⟩)
  · rw [bz_0] at c8
    refine z_iconst B dX6_beat_11 ?_
    refine z_ireti B Rt dX6_beat_12 ?_
    exact Or.inr (Or.inl ⟨c8, rfl, rfl⟩)

theorem mX6_alter {l : Launch} {G : gx_G} (hG : gx_OK G 91) (J : zJ) {n : Nat} (hM : VM J n) {b c e q k : Int} (hb : zB b) (hc : zB c) (he : zB e) (hq : zB q) (hk : zB k) : zMi l G yX6_alter cX6_alter 6 .int rmX6_alter [.ref (gx_ad G 76), .int (zI b), .int (zI c), .int (zI e), .int (zI q), .int (zI k)] J (fun r J' => (((0 ≤ b ∧ b < n) ∧ ((0 ≤ c ∧ c ≤ 4095) ∧ (-1 ≤ e ∧ e ≤ 11) ∧ (1 ≤ q ∧ q ≤ 8) ∧ (0 ≤ k ∧ k ≤ 3))) ∧ r = 1 ∧ J' = ptM J b.toNat c e q k) ∨ (¬ ((0 ≤ b ∧ b < n) ∧ ((0 ≤ c ∧ c ≤ 4095) ∧ (-1 ≤ e ∧ e ≤ 11) ∧ (1 ≤ q ∧ q ≤ 8) ∧ (0 ≤ k ∧ k ≤ 3))) ∧ r = -1 ∧ J' = J)) := by
  refine gx_mi hG (by decide) (Nat.le_of_ble_eq_true rfl) (fun X hla B Rt => ?_)
  subst hla
  have B : gx_B G X RX6 cX6_alter 6 rmX6_alter 91 := B
  show gx_WG G X 6 (zh J) 0 [(0, .ref (gx_ad G 76)), (1, .int (zI b)), (2, .int (zI c)), (3, .int (zI e)), (4, .int (zI q)), (5, .int (zI k))] []
  obtain ⟨v1, v2, v3, v4, v5, ⟨h5, h8⟩, v7, v8⟩ := id hM
  refine gx_aload_n B dX6_alter_0 rfl rfl ?_
  refine gx_iload_n B dX6_alter_1 rfl rfl ?_
  refine z_callVi [.int (zI b)] B lv_X6_79 (mX6_isBeat hG J hM hb) rfl (by decide) rfl rfl (Nat.le_of_ble_eq_true rfl) (by decide) (by decide) dX6_alter_2 (fun r2 J1 hJ1 => ?_)
  rw [show r2 = bz (0 ≤ b ∧ b < n) from hJ1.1, hJ1.2]
  refine z_if_eq (tgt := 20) B dX6_alter_5 (bzB _) (by decide) (fun c5 => ?_) (fun c5 => ?_)
  · rw [bz_0] at c5
    refine z_iconst B dX6_alter_20 ?_
    refine z_ireti B Rt dX6_alter_21 ?_
    exact Or.inr ⟨by first | exact (fun q => c17 q.2) | exact (fun q => c5 q.1), rfl, rfl⟩
  · rw [bz_n0] at c5
    obtain ⟨bb, rfl⟩ : ∃ bb : Nat, b = (bb : Int) := ⟨b.toNat, by omega⟩
    refine gx_iload_n B dX6_alter_8 rfl rfl ?_
    refine gx_iload_n B dX6_alter_9 rfl rfl ?_
    refine gx_iload B dX6_alter_10 rfl ?_
    refine gx_iload B dX6_alter_12 rfl ?_
    refine z_callSi [.int (zI c), .int (zI e), .int (zI q), .int (zI k)] B ls_X6_71 (mX6_isTold hG J hc he hq hk) rfl rfl (Nat.le_of_ble_eq_true rfl) (by decide) (by decide) dX6_alter_14 (fun r4 J3 hJ3 => ?_)
    rw [show r4 = bz ((0 ≤ c ∧ c ≤ 4095) ∧ (-1 ≤ e ∧ e ≤ 11) ∧ (1 ≤ q ∧ q ≤ 8) ∧ (0 ≤ k ∧ k ≤ 3)) from hJ3.1, hJ3.2]
    refine z_if_ne (tgt := 22) B dX6_alter_17 (bzB _) (by decide) (fun c17 => ?_) (fun c17 => ?_)
    · rw [bz_n0] at c17
      refine gx_aload_n B dX6_alter_22 rfl rfl ?_
      refine gx_iload_n B dX6_alter_23 rfl rfl ?_
      refine gx_iload_n B dX6_alter_24 rfl rfl ?_
      refine gx_iload_n B dX6_alter_25 rfl rfl ?_
      refine gx_iload B dX6_alter_26 rfl ?_
      refine gx_iload B dX6_alter_28 rfl ?_
      refine z_callVv [.int (zI (bb : Int)), .int (zI c), .int (zI e), .int (zI q), .int (zI k)] B lv_X6_75 (mX6_put hG J (b := bb) (by omega) (c := c) (e := e) (q := q) (k := k)) rfl (by decide) rfl rfl (Nat.le_of_ble_eq_true rfl) (by decide) (by decide) dX6_alter_30 (fun J1 hJ1 => ?_)
      refine z_iconst B dX6_alter_33 ?_
      refine z_ireti B Rt dX6_alter_34 ?_
      exact Or.inl ⟨⟨c5, c17⟩, rfl, by rw [hJ1, Int.toNat_natCast]⟩
    · rw [bz_0] at c17
      refine z_iconst B dX6_alter_20 ?_
      refine z_ireti B Rt dX6_alter_21 ?_
      exact Or.inr ⟨by first | exact (fun q => c17 q.2) | exact (fun q => c5 q.1), rfl, rfl⟩

theorem mX6_drop {l : Launch} {G : gx_G} (hG : gx_OK G 91) (J : zJ) {n : Nat} (hM : VM J n)  : zMi l G yX6_drop cX6_drop 1 .int rmX6_drop [.ref (gx_ad G 76)] J (fun r J' => (0 < n ∧ r = ((n - 1 : Nat) : Int) ∧ J' = zup J 77 5 ((n - 1 : Nat) : Int)) ∨ (n = 0 ∧ r = -3 ∧ J' = J)) := by
  refine gx_mi hG (by decide) (Nat.le_of_ble_eq_true rfl) (fun X hla B Rt => ?_)
  subst hla
  have B : gx_B G X RX6 cX6_drop 1 rmX6_drop 91 := B
  show gx_WG G X 1 (zh J) 0 [(0, .ref (gx_ad G 76))] []
  obtain ⟨v1, v2, v3, v4, v5, ⟨h5, h8⟩, v7, v8⟩ := id hM
  refine gx_aload_n B dX6_drop_0 rfl rfl ?_
  refine gx_getr (t := 77) B fl_X6_7 rfl (by decide) rfl dX6_drop_1 ?_
  refine z_iconst B dX6_drop_4 ?_
  refine z_iald 5 B rfl (by decide) rfl (by decide) (by decide) dX6_drop_5 ?_
  refine z_if_ne (tgt := 12) B dX6_drop_6 ⟨by omega, by omega⟩ (by decide) (fun c6 => ?_) (fun c6 => ?_)
  · refine gx_aload_n B dX6_drop_12 rfl rfl ?_
    refine gx_getr (t := 77) B fl_X6_7 rfl (by decide) rfl dX6_drop_13 ?_
    refine z_iconst B dX6_drop_16 ?_
    refine gx_dup2 B dX6_drop_17 rfl rfl ?_
    refine z_iald 5 B rfl (by decide) rfl (by decide) (by decide) dX6_drop_18 ?_
    refine z_iconst B dX6_drop_19 ?_
    refine z_isub B dX6_drop_20 ?_
    refine z_iast 5 B rfl (by decide) rfl (by decide) (by decide) dX6_drop_21 (fun J1 hJ1 => ?_)
    refine gx_aload_n B dX6_drop_22 rfl rfl ?_
    refine gx_getr (t := 77) B fl_X6_7 rfl (by decide) rfl dX6_drop_23 ?_
    refine z_iconst B dX6_drop_26 ?_
    refine z_iald 5 B rfl (by decide) rfl (by decide) (by decide) dX6_drop_27 ?_
    refine z_ireti B Rt dX6_drop_28 ?_
    refine Or.inl ⟨by omega, ?_, ?_⟩
    · rw [hJ1, zup_self]; omega
    · rw [hJ1]; congr 1; omega
  · refine z_bipush B dX6_drop_9 (by decide) ?_
    refine z_ireti B Rt dX6_drop_11 ?_
    exact Or.inr ⟨by omega, rfl, rfl⟩

theorem mX6_of {l : Launch} {G : gx_G} (hG : gx_OK G 91) (J : zJ) {n : Nat} (hM : VM J n) {b w : Int} (hb : zB b) (hw : zB w) : zMi l G yX6_of cX6_of 3 .int rmX6_of [.ref (gx_ad G 76), .int (zI b), .int (zI w)] J (fun r J' => (((0 ≤ b ∧ b < n) → (0 ≤ w ∧ w ≤ 3 → r = J 78 (4 * b.toNat + w.toNat)) ∧ (¬ (0 ≤ w ∧ w ≤ 3) → r = -9)) ∧ (¬ (0 ≤ b ∧ b < n) → r = -9)) ∧ J' = J) := by
  refine gx_mi hG (by decide) (Nat.le_of_ble_eq_true rfl) (fun X hla B Rt => ?_)
  subst hla
  have B : gx_B G X RX6 cX6_of 3 rmX6_of 91 := B
  show gx_WG G X 3 (zh J) 0 [(0, .ref (gx_ad G 76)), (1, .int (zI b)), (2, .int (zI w))] []
  obtain ⟨v1, v2, v3, v4, v5, ⟨h5, h8⟩, v7, v8⟩ := id hM
  refine gx_aload_n B dX6_of_0 rfl rfl ?_
  refine gx_iload_n B dX6_of_1 rfl rfl ?_
  refine z_callVi [.int (zI b)] B lv_X6_79 (mX6_isBeat hG J hM hb) rfl (by decide) rfl rfl (Nat.le_of_ble_eq_true rfl) (by decide) (by decide) dX6_of_2 (fun r2 J1 hJ1 => ?_)
  rw [show r2 = bz (0 ≤ b ∧ b < n) from hJ1.1, hJ1.2]
  refine z_if_eq (tgt := 30) B dX6_of_5 (bzB _) (by decide) (fun c5 => ?_) (fun c5 => ?_)
  · rw [bz_0] at c5
    refine z_bipush B dX6_of_30 (by decide) ?_
    refine z_ireti B Rt dX6_of_32 ?_
    exact ⟨⟨fun q => ⟨fun q2 => by first | rfl | exact absurd q c5 | exact absurd q2 c14, fun q2 => by first | rfl | exact absurd c14 q2⟩, fun q => by first | rfl | exact absurd c5 q⟩, rfl⟩
  · rw [bz_n0] at c5
    obtain ⟨bb, rfl⟩ : ∃ bb : Nat, b = (bb : Int) := ⟨b.toNat, by omega⟩
    refine gx_iload_n B dX6_of_8 rfl rfl ?_
    refine z_iconst B dX6_of_9 ?_
    refine z_iconst B dX6_of_10 ?_
    refine z_callSi [.int (zI w), .int (zI 0), .int (zI 3)] B ls_X6_52 (mX6_in hG J (v := w) (a := 0) (b := 3) ⟨by omega, by omega⟩ ⟨by omega, by omega⟩ ⟨by omega, by omega⟩) rfl rfl (Nat.le_of_ble_eq_true rfl) (by decide) (by decide) dX6_of_11 (fun r4 J3 hJ3 => ?_)
    rw [show r4 = bz (0 ≤ w ∧ w ≤ 3) from hJ3.1, hJ3.2]
    refine z_if_eq (tgt := 30) B dX6_of_14 (bzB _) (by decide) (fun c14 => ?_) (fun c14 => ?_)
    · rw [bz_0] at c14
      refine z_bipush B dX6_of_30 (by decide) ?_
      refine z_ireti B Rt dX6_of_32 ?_
      exact ⟨⟨fun q => ⟨fun q2 => by first | rfl | exact absurd q c5 | exact absurd q2 c14, fun q2 => by first | rfl | exact absurd c14 q2⟩, fun q => by first | rfl | exact absurd c5 q⟩, rfl⟩
    · rw [bz_n0] at c14
      refine gx_aload_n B dX6_of_17 rfl rfl ?_
      refine gx_getr (t := 78) B fl_X6_13 rfl (by decide) rfl dX6_of_18 ?_
      refine z_iconst B dX6_of_21 ?_
      refine gx_iload_n B dX6_of_22 rfl rfl ?_
      refine z_imul B dX6_of_23 ?_
      refine gx_iload_n B dX6_of_24 rfl rfl ?_
      refine z_iadd B dX6_of_25 ?_
      refine z_iald (4 * bb + w.toNat) B rfl (by decide) (by omega) (show 4 * bb + w.toNat < 32 by omega) (by decide) dX6_of_26 ?_
      refine gx_goto (tgt := 32) B dX6_of_27 (by decide) ?_
      refine z_ireti B Rt dX6_of_32 ?_
      exact ⟨⟨fun q => ⟨fun q2 => by first | rfl | exact absurd q c5 | exact absurd q2 c14, fun q2 => by first | rfl | exact absurd c14 q2⟩, fun q => by first | rfl | exact absurd c5 q⟩, rfl⟩

