
theorem Cinv.way {J : zJ} {n : Nat} (hI : Cinv J n) : (J 11 3 = -1 ∨ (0 ≤ J 11 3 ∧ J 11 3 < 256)) ∧ (0 ≤ J 11 4 ∧ J 11 4 ≤ 1073741824) ∧ (0 ≤ J 11 5 ∧ J 11 5 ≤ 1073741824) := by
  obtain ⟨v1, v2, v3, v4, v5, v6, v7⟩ := id hI.1
  have hn := v6.2.1
  have h := hI.2.1.2.2
  have hB : BPre J n := BPre.of hI.1 h.1 h.2.1
  have hp := pow8 hn
  refine ⟨?_, ?_, ?_⟩
  · rcases h.2.2.1 with ⟨h1, -, -⟩ | ⟨w, h1, h2, -⟩
    · exact Or.inl h1
    · exact Or.inr ⟨by omega, by omega⟩
  · rcases h.2.2.1 with ⟨-, h1, -⟩ | ⟨w, -, -, -, h1, -⟩
    · omega
    · have := price_le (J 11 2) w (J 13) n
      have h9 : J 11 4 = sumN (prc (J 11 2) w (J 13)) n := h1
      omega
  · rcases h.2.2.2.2 with h1 | ⟨t, -, -, h1⟩
    · omega
    · have := pk_le2 (n := J 11 2) (t := t) (fun b hb => (hB.2.2 b hb).1) v5.1 (by omega) n (Nat.le_refl _)
      have h9 : J 11 5 = max (pkN (J 11 2) t (J 12) (J 1 4) n) 1 := h1
      omega

theorem mX5_sound {l : Launch} {G : gx_G} (hG : gx_OK G 76) (J : zJ) {n : Nat} (hI : Cinv J n) {b : Int} (hb : zB b) : zMi l G yX5_sound cX5_sound 3 .int rmX5_sound [.ref (gx_ad G 0), .int (zI b)] J (fun r J' => ((0 ≤ b ∧ b < 72 → r = if J 16 b.toNat = 0 then -3 else J 16 b.toNat) ∧ (¬ (0 ≤ b ∧ b < 72) → r = -1)) ∧ J' = J) := by
  refine gx_mi hG (by decide) (Nat.le_of_ble_eq_true rfl) (fun X hla B Rt => ?_)
  subst hla
  have B : gx_B G X RX5 cX5_sound 3 rmX5_sound 76 := B
  show gx_WG G X 3 (zh J) 0 [(0, .ref (gx_ad G 0)), (1, .int (zI b))] []
  have h8 := hI.1.2.2.2.2.2.1.2.1
  have h5 := hI.1.2.2.2.2.2.1.1
  obtain ⟨v1, v2, v3, v4, v5, v6, v7⟩ := id hI.1
  refine gx_iload_n B dX5_sound_0 rfl rfl ?_
  refine z_if_lt (tgt := 10) B dX5_sound_1 ⟨by omega, by omega⟩ (by decide) (fun c1_1 => ?_) (fun c1_1 => ?_)
  · refine z_iconst B dX5_sound_10 ?_
    refine z_ireti B Rt dX5_sound_11 ?_
    exact ⟨⟨fun q => by omega, fun _ => rfl⟩, rfl⟩
  · refine gx_iload_n B dX5_sound_4 rfl rfl ?_
    refine z_bipush B dX5_sound_5 (by decide) ?_
    refine z_icmp_lt (tgt := 12) B dX5_sound_7 ⟨by omega, by omega⟩ ⟨by omega, by omega⟩ (by decide) (fun c7_2 => ?_) (fun c7_2 => ?_)
    · refine gx_aload_n B dX5_sound_12 rfl rfl ?_
      refine gx_getr (t := 14) B fl_X5_26 rfl (by decide) rfl dX5_sound_13 ?_
      refine gx_getr (t := 15) B fl_X5_58 (kHand pH0) (bHand pH0) (rHand0 pH0) dX5_sound_16 ?_
      refine gx_getr (t := 16) B fl_X5_62 (kBoard (bdH pH0)) (bBoard (bdH pH0)) (rBoard0 (bdH pH0)) dX5_sound_19 ?_
      refine gx_iload_n B dX5_sound_22 rfl rfl ?_
      refine z_iald b.toNat B (aBoard1 (bdH pH0)) (cBoard1 (bdH pH0)) (by omega) (by omega) (by decide) dX5_sound_23 ?_
      have hn9 : zB (J 16 b.toNat) := by
        have h9 := hI.2.1.1.1.1 b.toNat (by omega)
        have h10 := ntc_le (rows := J 1 1) v1.1 v1.2 (show b.toNat < 72 by omega)
        have h11 : J 16 b.toNat = ntc (J 1 0) (J 1 1) b.toNat := h9
        exact ⟨by omega, by omega⟩
      refine z_istore_n (fun v9 => [(0, .ref (gx_ad G 0)), (1, .int (zI b)), (2, .int (zI v9))]) B dX5_sound_24 rfl (by decide) rfl (fun _ => rfl) (fun v9 hv9 => ?_)
      rw [hv9]
      refine gx_iload_n B dX5_sound_25 rfl rfl ?_
      refine z_if_ne (tgt := 34) B dX5_sound_26 hn9 (by decide) (fun c26 => ?_) (fun c26 => ?_)
      · refine gx_iload_n B dX5_sound_34 rfl rfl ?_
        refine z_ireti B Rt dX5_sound_35 ?_
        exact ⟨⟨fun _ => by first | rw [if_pos c26] | rw [if_neg c26], fun q => absurd ⟨by omega, by omega⟩ q⟩, rfl⟩
      · refine z_bipush B dX5_sound_29 (by decide) ?_
        refine gx_goto (tgt := 35) B dX5_sound_31 (by decide) ?_
        refine z_ireti B Rt dX5_sound_35 ?_
        exact ⟨⟨fun _ => by first | rw [if_pos c26] | rw [if_neg c26], fun q => absurd ⟨by omega, by omega⟩ q⟩, rfl⟩
    · refine z_iconst B dX5_sound_10 ?_
      refine z_ireti B Rt dX5_sound_11 ?_
      exact ⟨⟨fun q => by omega, fun _ => rfl⟩, rfl⟩

theorem mX5_root {l : Launch} {G : gx_G} (hG : gx_OK G 76) (J : zJ) {n : Nat} (hI : Cinv J n) {b : Int} (hb : zB b) : zMi l G yX5_root cX5_root 2 .int rmX5_root [.ref (gx_ad G 0), .int (zI b)] J (fun r J' => ((0 ≤ b ∧ b < 12 → r = zrem (J 1 0 + 7 * b) 12) ∧ (¬ (0 ≤ b ∧ b < 12) → r = -1)) ∧ J' = J) := by
  refine gx_mi hG (by decide) (Nat.le_of_ble_eq_true rfl) (fun X hla B Rt => ?_)
  subst hla
  have B : gx_B G X RX5 cX5_root 2 rmX5_root 76 := B
  show gx_WG G X 2 (zh J) 0 [(0, .ref (gx_ad G 0)), (1, .int (zI b))] []
  have h8 := hI.1.2.2.2.2.2.1.2.1
  have h5 := hI.1.2.2.2.2.2.1.1
  obtain ⟨v1, v2, v3, v4, v5, v6, v7⟩ := id hI.1
  refine gx_iload_n B dX5_root_0 rfl rfl ?_
  refine z_if_lt (tgt := 10) B dX5_root_1 ⟨by omega, by omega⟩ (by decide) (fun c1_1 => ?_) (fun c1_1 => ?_)
  · refine z_iconst B dX5_root_10 ?_
    refine z_ireti B Rt dX5_root_11 ?_
    exact ⟨⟨fun q => by omega, fun _ => rfl⟩, rfl⟩
  · refine gx_iload_n B dX5_root_4 rfl rfl ?_
    refine z_bipush B dX5_root_5 (by decide) ?_
    refine z_icmp_lt (tgt := 12) B dX5_root_7 ⟨by omega, by omega⟩ ⟨by omega, by omega⟩ (by decide) (fun c7_2 => ?_) (fun c7_2 => ?_)
    · refine gx_aload_n B dX5_root_12 rfl rfl ?_
      refine gx_getr (t := 1) B fl_X5_10 rfl (by decide) rfl dX5_root_13 ?_
      refine z_geti B fl_X5_44 (kDesk pD1) (bDesk pD1) (zDesk0 pD1) dX5_root_16 ?_
      refine gx_iload_n B dX5_root_19 rfl rfl ?_
      refine z_callSi [.int (zI (J 1 0)), .int (zI b)] B ls_X5_68 (mX5_rootOf hG J (a := J 1 0) (b := b)) rfl rfl (Nat.le_of_ble_eq_true rfl) (by decide) (by decide) dX5_root_20 (fun r4 J3 hJ3 => ?_)
      rw [show r4 = zrem (J 1 0 + 7 * b) 12 from hJ3.1, hJ3.2]
      refine z_ireti B Rt dX5_root_23 ?_
      exact ⟨⟨fun _ => rfl, fun q => absurd ⟨by omega, by omega⟩ q⟩, rfl⟩
    · refine z_iconst B dX5_root_10 ?_
      refine z_ireti B Rt dX5_root_11 ?_
      exact ⟨⟨fun q => by omega, fun _ => rfl⟩, rfl⟩

theorem mX5_of {l : Launch} {G : gx_G} (hG : gx_OK G 76) (J : zJ) {n : Nat} (hI : Cinv J n) {b w : Int} (hb : zB b) (hw : zB w) : zMi l G yX5_of cX5_of 3 .int rmX5_of [.ref (gx_ad G 0), .int (zI b), .int (zI w)] J (fun r J' => (((0 ≤ b ∧ b < n) → (w = 0 → r = J 2 b.toNat) ∧ (w = 1 → r = J 3 b.toNat) ∧ (w = 2 → r = J 4 b.toNat) ∧ (w = 3 → r = J 5 b.toNat) ∧ (¬ (0 ≤ w ∧ w ≤ 3) → r = -9)) ∧ (¬ (0 ≤ b ∧ b < n) → r = -9)) ∧ J' = J) := by
  refine gx_mi hG (by decide) (Nat.le_of_ble_eq_true rfl) (fun X hla B Rt => ?_)
  subst hla
  have B : gx_B G X RX5 cX5_of 3 rmX5_of 76 := B
  show gx_WG G X 3 (zh J) 0 [(0, .ref (gx_ad G 0)), (1, .int (zI b)), (2, .int (zI w))] []
  have h8 := hI.1.2.2.2.2.2.1.2.1
  have h5 := hI.1.2.2.2.2.2.1.1
  obtain ⟨v1, v2, v3, v4, v5, v6, v7⟩ := id hI.1
  refine gx_aload_n B dX5_of_0 rfl rfl ?_
  refine gx_getr (t := 1) B fl_X5_10 rfl (by decide) rfl dX5_of_1 ?_
  refine gx_iload_n B dX5_of_4 rfl rfl ?_
  refine z_callVi [.int (zI b)] B lv_X5_97 (mX2_has hG J pD1 hb ⟨by omega, by omega⟩) (kDesk pD1) (bDesk pD1) rfl rfl (Nat.le_of_ble_eq_true rfl) (by decide) (by decide) dX5_of_5 (fun r2 J1 hJ1 => ?_)
  rw [show r2 = bz (0 ≤ b ∧ b < J 1 5) from hJ1.1, hJ1.2]
  refine z_if_ne (tgt := 14) B dX5_of_8 (bzB _) (by decide) (fun c8 => ?_) (fun c8 => ?_)
  · rw [bz_n0, h5] at c8
    obtain ⟨bb, rfl⟩ : ∃ bb : Nat, b = (bb : Int) := ⟨b.toNat, by omega⟩
    refine gx_iload_n B dX5_of_14 rfl rfl ?_
    by_cases sw3 : 0 ≤ w ∧ w ≤ 3
    · have sw3r : w = 0 ∨ w = 1 ∨ w = 2 ∨ w = 3 := by omega
      rcases sw3r with sw3_0 | sw3_1 | sw3_2 | sw3_3
      · refine z_swIn (off := 29) (tgt := 44) B dX5_of_15 ⟨by omega, by omega⟩ (by omega) (by omega) (by rw [sw3_0]; decide) (by decide) ?_
        refine gx_aload_n B dX5_of_44 rfl rfl ?_
        refine gx_getr (t := 1) B fl_X5_10 rfl (by decide) rfl dX5_of_45 ?_
        refine gx_getr (t := 2) B fl_X5_101 (kDesk pD1) (bDesk pD1) (rDesk6 pD1) dX5_of_48 ?_
        refine gx_iload_n B dX5_of_51 rfl rfl ?_
        refine z_iald bb B (aDesk1 pD1) (cDesk1 pD1) rfl (show bb < 8 by omega) (by decide) dX5_of_52 ?_
        refine z_ireti B Rt dX5_of_53 ?_
        refine ⟨⟨fun _ => ⟨fun q => ?_, fun q => ?_, fun q => ?_, fun q => ?_, fun q => ?_⟩, fun q => absurd ⟨by omega, by omega⟩ q⟩, rfl⟩ <;> first | omega | rfl
      · refine z_swIn (off := 39) (tgt := 54) B dX5_of_15 ⟨by omega, by omega⟩ (by omega) (by omega) (by rw [sw3_1]; decide) (by decide) ?_
        refine gx_aload_n B dX5_of_54 rfl rfl ?_
        refine gx_getr (t := 1) B fl_X5_10 rfl (by decide) rfl dX5_of_55 ?_
        refine gx_getr (t := 3) B fl_X5_104 (kDesk pD1) (bDesk pD1) (rDesk7 pD1) dX5_of_58 ?_
        refine gx_iload_n B dX5_of_61 rfl rfl ?_
        refine z_iald bb B (aDesk2 pD1) (cDesk2 pD1) rfl (show bb < 8 by omega) (by decide) dX5_of_62 ?_
        refine z_ireti B Rt dX5_of_63 ?_
        refine ⟨⟨fun _ => ⟨fun q => ?_, fun q => ?_, fun q => ?_, fun q => ?_, fun q => ?_⟩, fun q => absurd ⟨by omega, by omega⟩ q⟩, rfl⟩ <;> first | omega | rfl
      · refine z_swIn (off := 49) (tgt := 64) B dX5_of_15 ⟨by omega, by omega⟩ (by omega) (by omega) (by rw [sw3_2]; decide) (by decide) ?_
        refine gx_aload_n B dX5_of_64 rfl rfl ?_
        refine gx_getr (t := 1) B fl_X5_10 rfl (by decide) rfl dX5_of_65 ?_
        refine gx_getr (t := 4) B fl_X5_107 (kDesk pD1) (bDesk pD1) (rDesk8 pD1) dX5_of_68 ?_
        refine gx_iload_n B dX5_of_71 rfl rfl ?_
        refine z_iald bb B (aDesk3 pD1) (cDesk3 pD1) rfl (show bb < 8 by omega) (by decide) dX5_of_72 ?_
        refine z_ireti B Rt dX5_of_73 ?_
        refine ⟨⟨fun _ => ⟨fun q => ?_, fun q => ?_, fun q => ?_, fun q => ?_, fun q => ?_⟩, fun q => absurd ⟨by omega, by omega⟩ q⟩, rfl⟩ <;> first | omega | rfl
      · refine z_swIn (off := 59) (tgt := 74) B dX5_of_15 ⟨by omega, by omega⟩ (by omega) (by omega) (by rw [sw3_3]; decide) (by decide) ?_
        refine gx_aload_n B dX5_of_74 rfl rfl ?_
        refine gx_getr (t := 1) B fl_X5_10 rfl (by decide) rfl dX5_of_75 ?_
        refine gx_getr (t := 5) B fl_X5_110 (kDesk pD1) (bDesk pD1) (rDesk9 pD1) dX5_of_78 ?_
        refine gx_iload_n B dX5_of_81 rfl rfl ?_
        refine z_iald bb B (aDesk4 pD1) (cDesk4 pD1) rfl (show bb < 8 by omega) (by decide) dX5_of_82 ?_
        refine z_ireti B Rt dX5_of_83 ?_
        refine ⟨⟨fun _ => ⟨fun q => ?_, fun q => ?_, fun q => ?_, fun q => ?_, fun q => ?_⟩, fun q => absurd ⟨by omega, by omega⟩ q⟩, rfl⟩ <;> first | omega | rfl
    · refine z_swOut (tgt := 84) B dX5_of_15 ⟨by omega, by omega⟩ (by omega) (by decide) ?_
      refine z_bipush B dX5_of_84 (by decide) ?_
      refine z_ireti B Rt dX5_of_86 ?_
      refine ⟨⟨fun _ => ⟨fun q => ?_, fun q => ?_, fun q => ?_, fun q => ?_, fun q => ?_⟩, fun q => absurd ⟨by omega, by omega⟩ q⟩, rfl⟩ <;> first | omega | rfl
  · rw [bz_0, h5] at c8
    refine z_bipush B dX5_of_11 (by decide) ?_
    refine z_ireti B Rt dX5_of_13 ?_
    exact ⟨⟨fun q => absurd q c8, fun _ => rfl⟩, rfl⟩

theorem mX5_good {l : Launch} {G : gx_G} (hG : gx_OK G 76) (J : zJ) {n : Nat} (hI : Cinv J n) {b w : Int} (hb : zB b) (hw : zB w) : zMi l G yX5_good cX5_good 4 .int rmX5_good [.ref (gx_ad G 0), .int (zI b), .int (zI w)] J (fun r J' => (((0 ≤ b ∧ b < n) → (w = 0 → r = J (14 + 15 + 2 * b.toNat) 3) ∧ (w = 1 → r = J (14 + 15 + 2 * b.toNat) 4) ∧ (w = 2 → r = J (14 + 15 + 2 * b.toNat) 2) ∧ (w = 3 → r = J (14 + 15 + 2 * b.toNat) 1) ∧ (¬ (0 ≤ w ∧ w ≤ 3) → r = -1)) ∧ (¬ (0 ≤ b ∧ b < n) → r = -1)) ∧ J' = J) := by
  refine gx_mi hG (by decide) (Nat.le_of_ble_eq_true rfl) (fun X hla B Rt => ?_)
  subst hla
  have B : gx_B G X RX5 cX5_good 4 rmX5_good 76 := B
  show gx_WG G X 4 (zh J) 0 [(0, .ref (gx_ad G 0)), (1, .int (zI b)), (2, .int (zI w))] []
  have h8 := hI.1.2.2.2.2.2.1.2.1
  have h5 := hI.1.2.2.2.2.2.1.1
  obtain ⟨v1, v2, v3, v4, v5, v6, v7⟩ := id hI.1
  refine gx_aload_n B dX5_good_0 rfl rfl ?_
  refine gx_getr (t := 1) B fl_X5_10 rfl (by decide) rfl dX5_good_1 ?_
  refine gx_iload_n B dX5_good_4 rfl rfl ?_
  refine z_callVi [.int (zI b)] B lv_X5_97 (mX2_has hG J pD1 hb ⟨by omega, by omega⟩) (kDesk pD1) (bDesk pD1) rfl rfl (Nat.le_of_ble_eq_true rfl) (by decide) (by decide) dX5_good_5 (fun r2 J1 hJ1 => ?_)
  rw [show r2 = bz (0 ≤ b ∧ b < J 1 5) from hJ1.1, hJ1.2]
  refine z_if_ne (tgt := 13) B dX5_good_8 (bzB _) (by decide) (fun c8 => ?_) (fun c8 => ?_)
  · rw [bz_n0, h5] at c8
    obtain ⟨bb, rfl⟩ : ∃ bb : Nat, b = (bb : Int) := ⟨b.toNat, by omega⟩
    refine gx_aload_n B dX5_good_13 rfl rfl ?_
    refine gx_getr (t := 14) B fl_X5_26 rfl (by decide) rfl dX5_good_14 ?_
    refine gx_getr (t := 18) B fl_X5_113 (kHand pH0) (bHand pH0) (rHand1 pH0) dX5_good_17 ?_
    refine gx_iload_n B dX5_good_20 rfl rfl ?_
    refine z_aald bb (14 + 15 + 2 * bb) B (kHg pH0) (cHg pH0) rfl (show bb < 8 by omega) (by decide) (rHg pH0 (show bb < 8 by omega)) dX5_good_21 ?_
    refine gx_astore_n [(0, .ref (gx_ad G 0)), (1, .int (zI (bb : Int))), (2, .int (zI w)), (3, .ref (gx_ad G (14 + 15 + 2 * bb)))] B dX5_good_22 rfl (by decide) rfl rfl ?_
    refine gx_iload_n B dX5_good_23 rfl rfl ?_
    by_cases sw3 : 0 ≤ w ∧ w ≤ 3
    · have sw3r : w = 0 ∨ w = 1 ∨ w = 2 ∨ w = 3 := by omega
      rcases sw3r with sw3_0 | sw3_1 | sw3_2 | sw3_3
      · refine z_swIn (off := 32) (tgt := 56) B dX5_good_24 ⟨by omega, by omega⟩ (by omega) (by omega) (by rw [sw3_0]; decide) (by decide) ?_
        refine gx_aload_n B dX5_good_56 rfl rfl ?_
        refine z_geti B fl_X5_117 (kGoods (gdH pH0 (show bb < 8 by omega))) (bGoods (gdH pH0 (show bb < 8 by omega))) (zGoods3 (gdH pH0 (show bb < 8 by omega))) dX5_good_57 ?_
        refine z_ireti B Rt dX5_good_60 ?_
        refine ⟨⟨fun _ => ⟨fun q => ?_, fun q => ?_, fun q => ?_, fun q => ?_, fun q => ?_⟩, fun q => absurd ⟨by omega, by omega⟩ q⟩, rfl⟩ <;> first | omega | rfl
      · refine z_swIn (off := 37) (tgt := 61) B dX5_good_24 ⟨by omega, by omega⟩ (by omega) (by omega) (by rw [sw3_1]; decide) (by decide) ?_
        refine gx_aload_n B dX5_good_61 rfl rfl ?_
        refine z_geti B fl_X5_122 (kGoods (gdH pH0 (show bb < 8 by omega))) (bGoods (gdH pH0 (show bb < 8 by omega))) (zGoods4 (gdH pH0 (show bb < 8 by omega))) dX5_good_62 ?_
        refine z_ireti B Rt dX5_good_65 ?_
        refine ⟨⟨fun _ => ⟨fun q => ?_, fun q => ?_, fun q => ?_, fun q => ?_, fun q => ?_⟩, fun q => absurd ⟨by omega, by omega⟩ q⟩, rfl⟩ <;> first | omega | rfl
      · refine z_swIn (off := 42) (tgt := 66) B dX5_good_24 ⟨by omega, by omega⟩ (by omega) (by omega) (by rw [sw3_2]; decide) (by decide) ?_
        refine gx_aload_n B dX5_good_66 rfl rfl ?_
        refine z_geti B fl_X5_125 (kGoods (gdH pH0 (show bb < 8 by omega))) (bGoods (gdH pH0 (show bb < 8 by omega))) (zGoods2 (gdH pH0 (show bb < 8 by omega))) dX5_good_67 ?_
        refine z_ireti B Rt dX5_good_70 ?_
        refine ⟨⟨fun _ => ⟨fun q => ?_, fun q => ?_, fun q => ?_, fun q => ?_, fun q => ?_⟩, fun q => absurd ⟨by omega, by omega⟩ q⟩, rfl⟩ <;> first | omega | rfl
      · refine z_swIn (off := 47) (tgt := 71) B dX5_good_24 ⟨by omega, by omega⟩ (by omega) (by omega) (by rw [sw3_3]; decide) (by decide) ?_
        refine gx_aload_n B dX5_good_71 rfl rfl ?_
        refine z_geti B fl_X5_128 (kGoods (gdH pH0 (show bb < 8 by omega))) (bGoods (gdH pH0 (show bb < 8 by omega))) (zGoods1 (gdH pH0 (show bb < 8 by omega))) dX5_good_72 ?_
        refine z_ireti B Rt dX5_good_75 ?_
        refine ⟨⟨fun _ => ⟨fun q => ?_, fun q => ?_, fun q => ?_, fun q => ?_, fun q => ?_⟩, fun q => absurd ⟨by omega, by omega⟩ q⟩, rfl⟩ <;> first | omega | rfl
    · refine z_swOut (tgt := 76) B dX5_good_24 ⟨by omega, by omega⟩ (by omega) (by decide) ?_
      refine z_iconst B dX5_good_76 ?_
      refine z_ireti B Rt dX5_good_77 ?_
      refine ⟨⟨fun _ => ⟨fun q => ?_, fun q => ?_, fun q => ?_, fun q => ?_, fun q => ?_⟩, fun q => absurd ⟨by omega, by omega⟩ q⟩, rfl⟩ <;> first | omega | rfl
  · rw [bz_0, h5] at c8
    refine z_iconst B dX5_good_11 ?_
    refine z_ireti B Rt dX5_good_12 ?_
    exact ⟨⟨fun q => absurd q c8, fun _ => rfl⟩, rfl⟩

theorem mX5_button {l : Launch} {G : gx_G} (hG : gx_OK G 76) (J : zJ) {n : Nat} (hI : Cinv J n) {b k i : Int} (hb : zB b) (hk : zB k) (hi : zB i) : zMi l G yX5_button cX5_button 5 .int rmX5_button [.ref (gx_ad G 0), .int (zI b), .int (zI k), .int (zI i)] J (fun r J' => (((0 ≤ b ∧ b < n) → ((0 ≤ k ∧ k < J (14 + 15 + 2 * b.toNat) 1 ∧ 0 ≤ i ∧ i < J (14 + 15 + 2 * b.toNat) 2) → r = digZ (J (14 + 15 + 2 * b.toNat) 2) (J ((14 + 15 + 2 * b.toNat) + 1) k.toNat) i) ∧ (¬ (0 ≤ k ∧ k < J (14 + 15 + 2 * b.toNat) 1 ∧ 0 ≤ i ∧ i < J (14 + 15 + 2 * b.toNat) 2) → r = -3)) ∧ (¬ (0 ≤ b ∧ b < n) → r = -1)) ∧ J' = J) := by
  refine gx_mi hG (by decide) (Nat.le_of_ble_eq_true rfl) (fun X hla B Rt => ?_)
  subst hla
  have B : gx_B G X RX5 cX5_button 5 rmX5_button 76 := B
  show gx_WG G X 5 (zh J) 0 [(0, .ref (gx_ad G 0)), (1, .int (zI b)), (2, .int (zI k)), (3, .int (zI i))] []
  have h8 := hI.1.2.2.2.2.2.1.2.1
  have h5 := hI.1.2.2.2.2.2.1.1
  obtain ⟨v1, v2, v3, v4, v5, v6, v7⟩ := id hI.1
  refine gx_aload_n B dX5_button_0 rfl rfl ?_
  refine gx_getr (t := 1) B fl_X5_10 rfl (by decide) rfl dX5_button_1 ?_
  refine gx_iload_n B dX5_button_4 rfl rfl ?_
  refine z_callVi [.int (zI b)] B lv_X5_97 (mX2_has hG J pD1 hb ⟨by omega, by omega⟩) (kDesk pD1) (bDesk pD1) rfl rfl (Nat.le_of_ble_eq_true rfl) (by decide) (by decide) dX5_button_5 (fun r2 J1 hJ1 => ?_)
  rw [show r2 = bz (0 ≤ b ∧ b < J 1 5) from hJ1.1, hJ1.2]
  refine z_if_ne (tgt := 13) B dX5_button_8 (bzB _) (by decide) (fun c8 => ?_) (fun c8 => ?_)
  · rw [bz_n0, h5] at c8
    obtain ⟨bb, rfl⟩ : ∃ bb : Nat, b = (bb : Int) := ⟨b.toNat, by omega⟩
    have hgl := (hI.2.1.1.2 bb (by omega)).le
    have hg1 := hgl.1
    have hg2 := hgl.2.1
    have hg3 := hgl.2.2.1
    have hg4 := hgl.2.2.2.1
    refine gx_aload_n B dX5_button_13 rfl rfl ?_
    refine gx_getr (t := 14) B fl_X5_26 rfl (by decide) rfl dX5_button_14 ?_
    refine gx_getr (t := 18) B fl_X5_113 (kHand pH0) (bHand pH0) (rHand1 pH0) dX5_button_17 ?_
    refine gx_iload_n B dX5_button_20 rfl rfl ?_
    refine z_aald bb (14 + 15 + 2 * bb) B (kHg pH0) (cHg pH0) rfl (show bb < 8 by omega) (by decide) (rHg pH0 (show bb < 8 by omega)) dX5_button_21 ?_
    refine gx_astore [(0, .ref (gx_ad G 0)), (1, .int (zI (bb : Int))), (2, .int (zI k)), (3, .int (zI i)), (4, .ref (gx_ad G (14 + 15 + 2 * bb)))] B dX5_button_22 (by decide) rfl rfl ?_
    refine gx_iload_n B dX5_button_24 rfl rfl ?_
    refine z_if_lt (tgt := 50) B dX5_button_25 ⟨by omega, by omega⟩ (by decide) (fun c25 => ?_) (fun c25 => ?_)
    · refine z_bipush B dX5_button_50 (by decide) ?_
      refine z_ireti B Rt dX5_button_52 ?_
      exact ⟨⟨fun _ => ⟨fun q => by rw [Int.toNat_natCast] at q; omega, fun _ => rfl⟩, fun q => absurd c8 q⟩, rfl⟩
    · refine gx_iload_n B dX5_button_28 rfl rfl ?_
      refine gx_aload B dX5_button_29 rfl ?_
      refine z_geti B fl_X5_128 (kGoods (gdH pH0 (show bb < 8 by omega))) (bGoods (gdH pH0 (show bb < 8 by omega))) (zGoods1 (gdH pH0 (show bb < 8 by omega))) dX5_button_31 ?_
      refine z_icmp_ge (tgt := 50) B dX5_button_34 ⟨by omega, by omega⟩ ⟨by omega, by omega⟩ (by decide) (fun c34 => ?_) (fun c34 => ?_)
      · refine z_bipush B dX5_button_50 (by decide) ?_
        refine z_ireti B Rt dX5_button_52 ?_
        exact ⟨⟨fun _ => ⟨fun q => by rw [Int.toNat_natCast] at q; omega, fun _ => rfl⟩, fun q => absurd c8 q⟩, rfl⟩
      · refine gx_iload_n B dX5_button_37 rfl rfl ?_
        refine z_if_lt (tgt := 50) B dX5_button_38 ⟨by omega, by omega⟩ (by decide) (fun c38 => ?_) (fun c38 => ?_)
        · refine z_bipush B dX5_button_50 (by decide) ?_
          refine z_ireti B Rt dX5_button_52 ?_
          exact ⟨⟨fun _ => ⟨fun q => by rw [Int.toNat_natCast] at q; omega, fun _ => rfl⟩, fun q => absurd c8 q⟩, rfl⟩
        · refine gx_iload_n B dX5_button_41 rfl rfl ?_
          refine gx_aload B dX5_button_42 rfl ?_
          refine z_geti B fl_X5_125 (kGoods (gdH pH0 (show bb < 8 by omega))) (bGoods (gdH pH0 (show bb < 8 by omega))) (zGoods2 (gdH pH0 (show bb < 8 by omega))) dX5_button_44 ?_
          refine z_icmp_lt (tgt := 53) B dX5_button_47 ⟨by omega, by omega⟩ ⟨by omega, by omega⟩ (by decide) (fun c47 => ?_) (fun c47 => ?_)
          · obtain ⟨kk, rfl⟩ : ∃ kk : Nat, k = (kk : Int) := ⟨k.toNat, by omega⟩
            refine gx_aload B dX5_button_53 rfl ?_
            refine gx_iload_n B dX5_button_55 rfl rfl ?_
            refine gx_iload_n B dX5_button_56 rfl rfl ?_
            refine z_callVi [.int (zI (kk : Int)), .int (zI i)] B lv_X5_131 (mX3_buttonAt hG (gdH pH0 (show bb < 8 by omega)) J (k := kk) (by omega) (i := i)) (kGoods (gdH pH0 (show bb < 8 by omega))) (bGoods (gdH pH0 (show bb < 8 by omega))) rfl rfl (Nat.le_of_ble_eq_true rfl) (by decide) (by decide) dX5_button_57 (fun r4 J3 hJ3 => ?_)
            rw [show r4 = digZ (J (14 + 15 + 2 * bb) 2) (J (14 + 15 + 2 * bb + 1) kk) i from hJ3.1, hJ3.2]
            refine z_ireti B Rt dX5_button_60 ?_
            exact ⟨⟨fun _ => ⟨fun _ => by rw [Int.toNat_natCast, Int.toNat_natCast], fun q => absurd (by rw [Int.toNat_natCast]; omega) q⟩, fun q => absurd c8 q⟩, rfl⟩
          · refine z_bipush B dX5_button_50 (by decide) ?_
            refine z_ireti B Rt dX5_button_52 ?_
            exact ⟨⟨fun _ => ⟨fun q => by rw [Int.toNat_natCast] at q; omega, fun _ => rfl⟩, fun q => absurd c8 q⟩, rfl⟩
  · rw [bz_0, h5] at c8
    refine z_iconst B dX5_button_11 ?_
    refine z_ireti B Rt dX5_button_12 ?_
    exact ⟨⟨fun q => absurd q c8, fun _ => rfl⟩, rfl⟩

theorem mX5_hand {l : Launch} {G : gx_G} (hG : gx_OK G 76) (J : zJ) {n : Nat} (hI : Cinv J n) {b : Int} (hb : zB b) : zMi l G yX5_hand cX5_hand 2 .int rmX5_hand [.ref (gx_ad G 0), .int (zI b)] J (fun r J' => (((0 ≤ b ∧ b < n) → r = J 19 b.toNat) ∧ (¬ (0 ≤ b ∧ b < n) → r = -1)) ∧ J' = J) := by
  refine gx_mi hG (by decide) (Nat.le_of_ble_eq_true rfl) (fun X hla B Rt => ?_)
  subst hla
  have B : gx_B G X RX5 cX5_hand 2 rmX5_hand 76 := B
  show gx_WG G X 2 (zh J) 0 [(0, .ref (gx_ad G 0)), (1, .int (zI b))] []
  have h8 := hI.1.2.2.2.2.2.1.2.1
  have h5 := hI.1.2.2.2.2.2.1.1
  obtain ⟨v1, v2, v3, v4, v5, v6, v7⟩ := id hI.1
  refine gx_aload_n B dX5_hand_0 rfl rfl ?_
  refine gx_getr (t := 1) B fl_X5_10 rfl (by decide) rfl dX5_hand_1 ?_
  refine gx_iload_n B dX5_hand_4 rfl rfl ?_
  refine z_callVi [.int (zI b)] B lv_X5_97 (mX2_has hG J pD1 hb ⟨by omega, by omega⟩) (kDesk pD1) (bDesk pD1) rfl rfl (Nat.le_of_ble_eq_true rfl) (by decide) (by decide) dX5_hand_5 (fun r2 J1 hJ1 => ?_)
  rw [show r2 = bz (0 ≤ b ∧ b < J 1 5) from hJ1.1, hJ1.2]
  refine z_if_eq (tgt := 23) B dX5_hand_8 (bzB _) (by decide) (fun c8 => ?_) (fun c8 => ?_)
  · rw [bz_0, h5] at c8
    refine z_iconst B dX5_hand_23 ?_
    refine z_ireti B Rt dX5_hand_24 ?_
    exact ⟨⟨fun q => by first | rfl | exact absurd q c8, fun q => by first | rfl | exact absurd c8 q⟩, rfl⟩
  · rw [bz_n0, h5] at c8
    obtain ⟨bb, rfl⟩ : ∃ bb : Nat, b = (bb : Int) := ⟨b.toNat, by omega⟩
    refine gx_aload_n B dX5_hand_11 rfl rfl ?_
    refine gx_getr (t := 14) B fl_X5_26 rfl (by decide) rfl dX5_hand_12 ?_
    refine gx_getr (t := 19) B fl_X5_134 (kHand pH0) (bHand pH0) (rHand2 pH0) dX5_hand_15 ?_
    refine gx_iload_n B dX5_hand_18 rfl rfl ?_
    refine z_iald bb B (kHc pH0) (cHc pH0) rfl (show bb < 8 by omega) (by decide) dX5_hand_19 ?_
    refine gx_goto (tgt := 24) B dX5_hand_20 (by decide) ?_
    refine z_ireti B Rt dX5_hand_24 ?_
    exact ⟨⟨fun q => by first | rfl | exact absurd q c8, fun q => by first | rfl | exact absurd c8 q⟩, rfl⟩

theorem mX5_jumps {l : Launch} {G : gx_G} (hG : gx_OK G 76) (J : zJ) {n : Nat} (hI : Cinv J n)  : zMi l G yX5_jumps cX5_jumps 1 .int rmX5_jumps [.ref (gx_ad G 0)] J (fun r J' => r = J 14 3 ∧ J' = J) := by
  refine gx_mi hG (by decide) (Nat.le_of_ble_eq_true rfl) (fun X hla B Rt => ?_)
  subst hla
  have B : gx_B G X RX5 cX5_jumps 1 rmX5_jumps 76 := B
  show gx_WG G X 1 (zh J) 0 [(0, .ref (gx_ad G 0))] []
  have h8 := hI.1.2.2.2.2.2.1.2.1
  have h5 := hI.1.2.2.2.2.2.1.1
  obtain ⟨v1, v2, v3, v4, v5, v6, v7⟩ := id hI.1
  refine gx_aload_n B dX5_jumps_0 rfl rfl ?_
  refine gx_getr (t := 14) B fl_X5_26 rfl (by decide) rfl dX5_jumps_1 ?_
  refine z_geti B fl_X5_137 (kHand pH0) (bHand pH0) (zHand3 pH0) dX5_jumps_4 ?_
  refine z_ireti B Rt dX5_jumps_7 ?_
  exact ⟨rfl, rfl⟩

theorem mX5_sounds {l : Launch} {G : gx_G} (hG : gx_OK G 76) (J : zJ) {n : Nat} (hI : Cinv J n) {b : Int} (hb : zB b) : zMi l G yX5_sounds cX5_sounds 2 .int rmX5_sounds [.ref (gx_ad G 0), .int (zI b)] J (fun r J' => (((0 ≤ b ∧ b < n) → r = hnt J 14 b.toNat) ∧ (¬ (0 ≤ b ∧ b < n) → r = -1)) ∧ J' = J) := by
  refine gx_mi hG (by decide) (Nat.le_of_ble_eq_true rfl) (fun X hla B Rt => ?_)
  subst hla
  have B : gx_B G X RX5 cX5_sounds 2 rmX5_sounds 76 := B
  show gx_WG G X 2 (zh J) 0 [(0, .ref (gx_ad G 0)), (1, .int (zI b))] []
  have h8 := hI.1.2.2.2.2.2.1.2.1
  have h5 := hI.1.2.2.2.2.2.1.1
  obtain ⟨v1, v2, v3, v4, v5, v6, v7⟩ := id hI.1
  refine gx_aload_n B dX5_sounds_0 rfl rfl ?_
  refine gx_getr (t := 1) B fl_X5_10 rfl (by decide) rfl dX5_sounds_1 ?_
  refine gx_iload_n B dX5_sounds_4 rfl rfl ?_
  refine z_callVi [.int (zI b)] B lv_X5_97 (mX2_has hG J pD1 hb ⟨by omega, by omega⟩) (kDesk pD1) (bDesk pD1) rfl rfl (Nat.le_of_ble_eq_true rfl) (by decide) (by decide) dX5_sounds_5 (fun r2 J1 hJ1 => ?_)
  rw [show r2 = bz (0 ≤ b ∧ b < J 1 5) from hJ1.1, hJ1.2]
  refine z_if_eq (tgt := 22) B dX5_sounds_8 (bzB _) (by decide) (fun c8 => ?_) (fun c8 => ?_)
  · rw [bz_0, h5] at c8
    refine z_iconst B dX5_sounds_22 ?_
    refine z_ireti B Rt dX5_sounds_23 ?_
    exact ⟨⟨fun q => by first | rfl | exact absurd q c8, fun q => by first | rfl | exact absurd c8 q⟩, rfl⟩
  · rw [bz_n0, h5] at c8
    obtain ⟨bb, rfl⟩ : ∃ bb : Nat, b = (bb : Int) := ⟨b.toNat, by omega⟩
    have hgl := (hI.2.1.1.2 bb (by omega)).le
    have hcb := hI.2.1.2.1.ch (hI.2.1.1.pre h8) (b := bb) (by omega)
    refine gx_aload_n B dX5_sounds_11 rfl rfl ?_
    refine gx_getr (t := 14) B fl_X5_26 rfl (by decide) rfl dX5_sounds_12 ?_
    refine gx_iload_n B dX5_sounds_15 rfl rfl ?_
    refine z_callVi [.int (zI (bb : Int))] B lv_X5_140 (mX4_notesOf hG pH0 J (b := bb) (by omega) hgl.2.2.1 hgl.2.2.2.1 hcb.1.1 hcb.1.2 (fun q hq => (hgl.2.2.2.2 (hch J 14 bb) hcb.2.2).2 q hq)) (kHand pH0) (bHand pH0) rfl rfl (Nat.le_of_ble_eq_true rfl) (by decide) (by decide) dX5_sounds_16 (fun r4 J3 hJ3 => ?_)
    rw [show r4 = hnt J 14 bb from hJ3.1, hJ3.2]
    refine gx_goto (tgt := 23) B dX5_sounds_19 (by decide) ?_
    refine z_ireti B Rt dX5_sounds_23 ?_
    exact ⟨⟨fun q => by first | rfl | exact absurd q c8, fun q => by first | rfl | exact absurd c8 q⟩, rfl⟩

theorem mX5_use {l : Launch} {G : gx_G} (hG : gx_OK G 76) (J : zJ) {n : Nat} (hI : Cinv J n) {b : Int} (hb : zB b) : zMi l G yX5_use cX5_use 2 .int rmX5_use [.ref (gx_ad G 0), .int (zI b)] J (fun r J' => (((0 ≤ b ∧ b < n) → r = J 12 b.toNat) ∧ (¬ (0 ≤ b ∧ b < n) → r = -1)) ∧ J' = J) := by
  refine gx_mi hG (by decide) (Nat.le_of_ble_eq_true rfl) (fun X hla B Rt => ?_)
  subst hla
  have B : gx_B G X RX5 cX5_use 2 rmX5_use 76 := B
  show gx_WG G X 2 (zh J) 0 [(0, .ref (gx_ad G 0)), (1, .int (zI b))] []
  have h8 := hI.1.2.2.2.2.2.1.2.1
  have h5 := hI.1.2.2.2.2.2.1.1
  obtain ⟨v1, v2, v3, v4, v5, v6, v7⟩ := id hI.1
  refine gx_aload_n B dX5_use_0 rfl rfl ?_
  refine gx_getr (t := 1) B fl_X5_10 rfl (by decide) rfl dX5_use_1 ?_
  refine gx_iload_n B dX5_use_4 rfl rfl ?_
  refine z_callVi [.int (zI b)] B lv_X5_97 (mX2_has hG J pD1 hb ⟨by omega, by omega⟩) (kDesk pD1) (bDesk pD1) rfl rfl (Nat.le_of_ble_eq_true rfl) (by decide) (by decide) dX5_use_5 (fun r2 J1 hJ1 => ?_)
  rw [show r2 = bz (0 ≤ b ∧ b < J 1 5) from hJ1.1, hJ1.2]
  refine z_if_eq (tgt := 23) B dX5_use_8 (bzB _) (by decide) (fun c8 => ?_) (fun c8 => ?_)
  · rw [bz_0, h5] at c8
    refine z_iconst B dX5_use_23 ?_
    refine z_ireti B Rt dX5_use_24 ?_
    exact ⟨⟨fun q => by first | rfl | exact absurd q c8, fun q => by first | rfl | exact absurd c8 q⟩, rfl⟩
  · rw [bz_n0, h5] at c8
    obtain ⟨bb, rfl⟩ : ∃ bb : Nat, b = (bb : Int) := ⟨b.toNat, by omega⟩
    refine gx_aload_n B dX5_use_11 rfl rfl ?_
    refine gx_getr (t := 11) B fl_X5_36 rfl (by decide) rfl dX5_use_12 ?_
    refine gx_getr (t := 12) B fl_X5_150 rfl (by decide) rfl dX5_use_15 ?_
    refine gx_iload_n B dX5_use_18 rfl rfl ?_
    refine z_iald bb B rfl (by decide) rfl (show bb < 8 by omega) (by decide) dX5_use_19 ?_
    refine gx_goto (tgt := 24) B dX5_use_20 (by decide) ?_
    refine z_ireti B Rt dX5_use_24 ?_
    exact ⟨⟨fun q => by first | rfl | exact absurd q c8, fun q => by first | rfl | exact absurd c8 q⟩, rfl⟩

theorem mX5_bellows {l : Launch} {G : gx_G} (hG : gx_OK G 76) (J : zJ) {n : Nat} (hI : Cinv J n) {b : Int} (hb : zB b) : zMi l G yX5_bellows cX5_bellows 2 .int rmX5_bellows [.ref (gx_ad G 0), .int (zI b)] J (fun r J' => (((0 ≤ b ∧ b < n) → (J 11 3 = -1 → r = -3) ∧ (¬ J 11 3 = -1 → r = bz (gz (J 11 2) (J 11 3) b = 0))) ∧ (¬ (0 ≤ b ∧ b < n) → r = -1)) ∧ J' = J) := by
  refine gx_mi hG (by decide) (Nat.le_of_ble_eq_true rfl) (fun X hla B Rt => ?_)
  subst hla
  have B : gx_B G X RX5 cX5_bellows 2 rmX5_bellows 76 := B
  show gx_WG G X 2 (zh J) 0 [(0, .ref (gx_ad G 0)), (1, .int (zI b))] []
  have h8 := hI.1.2.2.2.2.2.1.2.1
  have h5 := hI.1.2.2.2.2.2.1.1
  obtain ⟨v1, v2, v3, v4, v5, v6, v7⟩ := id hI.1
  obtain ⟨hw1, hw2, hw3⟩ := hI.way
  have hwB : zB (J 11 3) := ⟨by omega, by omega⟩
  refine gx_aload_n B dX5_bellows_0 rfl rfl ?_
  refine gx_getr (t := 1) B fl_X5_10 rfl (by decide) rfl dX5_bellows_1 ?_
  refine gx_iload_n B dX5_bellows_4 rfl rfl ?_
  refine z_callVi [.int (zI b)] B lv_X5_97 (mX2_has hG J pD1 hb ⟨by omega, by omega⟩) (kDesk pD1) (bDesk pD1) rfl rfl (Nat.le_of_ble_eq_true rfl) (by decide) (by decide) dX5_bellows_5 (fun r2 J1 hJ1 => ?_)
  rw [show r2 = bz (0 ≤ b ∧ b < J 1 5) from hJ1.1, hJ1.2]
  refine z_if_ne (tgt := 13) B dX5_bellows_8 (bzB _) (by decide) (fun c8 => ?_) (fun c8 => ?_)
  · rw [bz_n0, h5] at c8
    obtain ⟨bb, rfl⟩ : ∃ bb : Nat, b = (bb : Int) := ⟨b.toNat, by omega⟩
    refine gx_aload_n B dX5_bellows_13 rfl rfl ?_
    refine gx_getr (t := 11) B fl_X5_36 rfl (by decide) rfl dX5_bellows_14 ?_
    refine z_callVi [] B lv_X5_153 (mX0_hasWay hG J hwB) rfl (by decide) rfl rfl (Nat.le_of_ble_eq_true rfl) (by decide) (by decide) dX5_bellows_17 (fun r4 J3 hJ3 => ?_)
    rw [show r4 = bz (¬ J 11 3 = -1) from hJ3.1, hJ3.2]
    refine z_if_ne (tgt := 26) B dX5_bellows_20 (bzB _) (by decide) (fun c20 => ?_) (fun c20 => ?_)
    · rw [bz_n0] at c20
      refine gx_aload_n B dX5_bellows_26 rfl rfl ?_
      refine gx_getr (t := 11) B fl_X5_36 rfl (by decide) rfl dX5_bellows_27 ?_
      refine gx_aload_n B dX5_bellows_30 rfl rfl ?_
      refine gx_getr (t := 11) B fl_X5_36 rfl (by decide) rfl dX5_bellows_31 ?_
      refine z_geti B fl_X5_157 rfl (by decide) rfl dX5_bellows_34 ?_
      refine gx_iload_n B dX5_bellows_37 rfl rfl ?_
      refine z_callVi [.int (zI (J 11 3)), .int (zI (bb : Int))] B lv_X5_160 (mX0_goesOut hG J (t := J 11 3) (b := (bb : Int))) rfl (by decide) rfl rfl (Nat.le_of_ble_eq_true rfl) (by decide) (by decide) dX5_bellows_38 (fun r6 J5 hJ5 => ?_)
      rw [show r6 = bz (gz (J 11 2) (J 11 3) bb = 0) from hJ5.1, hJ5.2]
      refine z_if_eq (tgt := 48) B dX5_bellows_41 (bzB _) (by decide) (fun c41 => ?_) (fun c41 => ?_)
      · rw [bz_0] at c41
        refine z_iconst B dX5_bellows_48 ?_
        refine z_ireti B Rt dX5_bellows_49 ?_
        exact ⟨⟨fun _ => ⟨fun q => absurd q c20, fun _ => by first | exact (bz_1.mpr c41).symm | exact (bz_0.mpr c41).symm⟩, fun q => absurd c8 q⟩, rfl⟩
      · rw [bz_n0] at c41
        refine z_iconst B dX5_bellows_44 ?_
        refine gx_goto (tgt := 49) B dX5_bellows_45 (by decide) ?_
        refine z_ireti B Rt dX5_bellows_49 ?_
        exact ⟨⟨fun _ => ⟨fun q => absurd q c20, fun _ => by first | exact (bz_1.mpr c41).symm | exact (bz_0.mpr c41).symm⟩, fun q => absurd c8 q⟩, rfl⟩
    · rw [bz_0] at c20
      refine z_bipush B dX5_bellows_23 (by decide) ?_
      refine z_ireti B Rt dX5_bellows_25 ?_
      exact ⟨⟨fun _ => ⟨fun _ => rfl, fun q => absurd (by omega) q⟩, fun q => absurd c8 q⟩, rfl⟩
  · rw [bz_0, h5] at c8
    refine z_iconst B dX5_bellows_11 ?_
    refine z_ireti B Rt dX5_bellows_12 ?_
    exact ⟨⟨fun q => absurd q c8, fun _ => rfl⟩, rfl⟩

theorem mX5_air {l : Launch} {G : gx_G} (hG : gx_OK G 76) (J : zJ) {n : Nat} (hI : Cinv J n) {b : Int} (hb : zB b) : zMi l G yX5_air cX5_air 2 .int rmX5_air [.ref (gx_ad G 0), .int (zI b)] J (fun r J' => (((0 ≤ b ∧ b < n) → (J 11 3 = -1 → r = -3) ∧ (¬ J 11 3 = -1 → r = airN (J 11 2) (J 11 3) (J 12) (J 1 4) (b.toNat + 1))) ∧ (¬ (0 ≤ b ∧ b < n) → r = -1)) ∧ J' = J) := by
  refine gx_mi hG (by decide) (Nat.le_of_ble_eq_true rfl) (fun X hla B Rt => ?_)
  subst hla
  have B : gx_B G X RX5 cX5_air 2 rmX5_air 76 := B
  show gx_WG G X 2 (zh J) 0 [(0, .ref (gx_ad G 0)), (1, .int (zI b))] []
  have h8 := hI.1.2.2.2.2.2.1.2.1
  have h5 := hI.1.2.2.2.2.2.1.1
  obtain ⟨v1, v2, v3, v4, v5, v6, v7⟩ := id hI.1
  obtain ⟨hw1, hw2, hw3⟩ := hI.way
  have hwB : zB (J 11 3) := ⟨by omega, by omega⟩
  refine gx_aload_n B dX5_air_0 rfl rfl ?_
  refine gx_getr (t := 1) B fl_X5_10 rfl (by decide) rfl dX5_air_1 ?_
  refine gx_iload_n B dX5_air_4 rfl rfl ?_
  refine z_callVi [.int (zI b)] B lv_X5_97 (mX2_has hG J pD1 hb ⟨by omega, by omega⟩) (kDesk pD1) (bDesk pD1) rfl rfl (Nat.le_of_ble_eq_true rfl) (by decide) (by decide) dX5_air_5 (fun r2 J1 hJ1 => ?_)
  rw [show r2 = bz (0 ≤ b ∧ b < J 1 5) from hJ1.1, hJ1.2]
  refine z_if_ne (tgt := 13) B dX5_air_8 (bzB _) (by decide) (fun c8 => ?_) (fun c8 => ?_)
  · rw [bz_n0, h5] at c8
    obtain ⟨bb, rfl⟩ : ∃ bb : Nat, b = (bb : Int) := ⟨b.toNat, by omega⟩
    refine gx_aload_n B dX5_air_13 rfl rfl ?_
    refine gx_getr (t := 11) B fl_X5_36 rfl (by decide) rfl dX5_air_14 ?_
    refine z_callVi [] B lv_X5_153 (mX0_hasWay hG J hwB) rfl (by decide) rfl rfl (Nat.le_of_ble_eq_true rfl) (by decide) (by decide) dX5_air_17 (fun r4 J3 hJ3 => ?_)
    rw [show r4 = bz (¬ J 11 3 = -1) from hJ3.1, hJ3.2]
    refine z_if_eq (tgt := 41) B dX5_air_20 (bzB _) (by decide) (fun c20 => ?_) (fun c20 => ?_)
    · rw [bz_0] at c20
      refine z_bipush B dX5_air_41 (by decide) ?_
      refine z_ireti B Rt dX5_air_43 ?_
      exact ⟨⟨fun _ => ⟨fun q => by first | rfl | exact absurd q c20, fun q => by first | rfl | exact absurd (by omega) q⟩, fun q => absurd c8 q⟩, rfl⟩
    · rw [bz_n0] at c20
      refine gx_aload_n B dX5_air_23 rfl rfl ?_
      refine gx_getr (t := 11) B fl_X5_36 rfl (by decide) rfl dX5_air_24 ?_
      refine gx_iload_n B dX5_air_27 rfl rfl ?_
      refine gx_aload_n B dX5_air_28 rfl rfl ?_
      refine gx_getr (t := 1) B fl_X5_10 rfl (by decide) rfl dX5_air_29 ?_
      refine z_geti B fl_X5_163 (kDesk pD1) (bDesk pD1) (zDesk4 pD1) dX5_air_32 ?_
      refine z_callVi [.int (zI (bb : Int)), .int (zI (J 1 4))] B lv_X5_166 (mX0_airBehind hG J (st := J 1 4) (b := bb) (by omega)) rfl (by decide) rfl rfl (Nat.le_of_ble_eq_true rfl) (by decide) (by decide) dX5_air_35 (fun r6 J5 hJ5 => ?_)
      rw [show r6 = airN (J 11 2) (J 11 3) (J 12) (J 1 4) (bb + 1) from hJ5.1, hJ5.2]
      refine gx_goto (tgt := 43) B dX5_air_38 (by decide) ?_
      refine z_ireti B Rt dX5_air_43 ?_
      exact ⟨⟨fun _ => ⟨fun q => by first | rfl | exact absurd q c20, fun q => by first | rfl | exact absurd (by omega) q⟩, fun q => absurd c8 q⟩, rfl⟩
  · rw [bz_0, h5] at c8
    refine z_iconst B dX5_air_11 ?_
    refine z_ireti B Rt dX5_air_12 ?_
    exact ⟨⟨fun q => absurd q c8, fun _ => rfl⟩, rfl⟩

theorem mX5_cost {l : Launch} {G : gx_G} (hG : gx_OK G 76) (J : zJ) {n : Nat} (hI : Cinv J n)  : zMi l G yX5_cost cX5_cost 1 .int rmX5_cost [.ref (gx_ad G 0)] J (fun r J' => ((J 11 3 = -1 → r = -3) ∧ (¬ J 11 3 = -1 → r = J 11 4)) ∧ J' = J) := by
  refine gx_mi hG (by decide) (Nat.le_of_ble_eq_true rfl) (fun X hla B Rt => ?_)
  subst hla
  have B : gx_B G X RX5 cX5_cost 1 rmX5_cost 76 := B
  show gx_WG G X 1 (zh J) 0 [(0, .ref (gx_ad G 0))] []
  have h8 := hI.1.2.2.2.2.2.1.2.1
  have h5 := hI.1.2.2.2.2.2.1.1
  obtain ⟨v1, v2, v3, v4, v5, v6, v7⟩ := id hI.1
  obtain ⟨hw1, hw2, hw3⟩ := hI.way
  have hwB : zB (J 11 3) := ⟨by omega, by omega⟩
  refine gx_aload_n B dX5_cost_0 rfl rfl ?_
  refine gx_getr (t := 11) B fl_X5_36 rfl (by decide) rfl dX5_cost_1 ?_
  refine z_callVi [] B lv_X5_153 (mX0_hasWay hG J hwB) rfl (by decide) rfl rfl (Nat.le_of_ble_eq_true rfl) (by decide) (by decide) dX5_cost_4 (fun r2 J1 hJ1 => ?_)
  rw [show r2 = bz (¬ J 11 3 = -1) from hJ1.1, hJ1.2]
  refine z_if_eq (tgt := 20) B dX5_cost_7 (bzB _) (by decide) (fun c7 => ?_) (fun c7 => ?_)
  · rw [bz_0] at c7
    refine z_bipush B dX5_cost_20 (by decide) ?_
    refine z_ireti B Rt dX5_cost_22 ?_
    exact ⟨⟨fun q => by first | rfl | exact absurd q c7, fun q => by first | rfl | exact absurd (by omega) q⟩, rfl⟩
  · rw [bz_n0] at c7
    refine gx_aload_n B dX5_cost_10 rfl rfl ?_
    refine gx_getr (t := 11) B fl_X5_36 rfl (by decide) rfl dX5_cost_11 ?_
    refine z_geti B fl_X5_169 rfl (by decide) rfl dX5_cost_14 ?_
    refine gx_goto (tgt := 22) B dX5_cost_17 (by decide) ?_
    refine z_ireti B Rt dX5_cost_22 ?_
    exact ⟨⟨fun q => by first | rfl | exact absurd q c7, fun q => by first | rfl | exact absurd (by omega) q⟩, rfl⟩

theorem mX5_wants {l : Launch} {G : gx_G} (hG : gx_OK G 76) (J : zJ) {n : Nat} (hI : Cinv J n)  : zMi l G yX5_wants cX5_wants 1 .int rmX5_wants [.ref (gx_ad G 0)] J (fun r J' => ((J 11 5 ≤ 400 → r = J 11 5) ∧ (¬ J 11 5 ≤ 400 → r = -3)) ∧ J' = J) := by
  refine gx_mi hG (by decide) (Nat.le_of_ble_eq_true rfl) (fun X hla B Rt => ?_)
  subst hla
  have B : gx_B G X RX5 cX5_wants 1 rmX5_wants 76 := B
  show gx_WG G X 1 (zh J) 0 [(0, .ref (gx_ad G 0))] []
  have h8 := hI.1.2.2.2.2.2.1.2.1
  have h5 := hI.1.2.2.2.2.2.1.1
  obtain ⟨v1, v2, v3, v4, v5, v6, v7⟩ := id hI.1
  obtain ⟨hw1, hw2, hw3⟩ := hI.way
  have hwB : zB (J 11 3) := ⟨by omega, by omega⟩
  refine gx_aload_n B dX5_wants_0 rfl rfl ?_
  refine gx_getr (t := 11) B fl_X5_36 rfl (by decide) rfl dX5_wants_1 ?_
  refine z_geti B fl_X5_172 rfl (by decide) rfl dX5_wants_4 ?_
  refine z_sipush B dX5_wants_7 (by decide) ?_
  refine z_icmp_gt (tgt := 23) B dX5_wants_10 ⟨by omega, by omega⟩ ⟨by omega, by omega⟩ (by decide) (fun c10_1 => ?_) (fun c10_1 => ?_)
  · refine z_bipush B dX5_wants_23 (by decide) ?_
    refine z_ireti B Rt dX5_wants_25 ?_
    exact ⟨⟨fun q => by first | rfl | omega, fun q => by first | rfl | omega⟩, rfl⟩
  · refine gx_aload_n B dX5_wants_13 rfl rfl ?_
    refine gx_getr (t := 11) B fl_X5_36 rfl (by decide) rfl dX5_wants_14 ?_
    refine z_geti B fl_X5_172 rfl (by decide) rfl dX5_wants_17 ?_
    refine gx_goto (tgt := 25) B dX5_wants_20 (by decide) ?_
    refine z_ireti B Rt dX5_wants_25 ?_
    exact ⟨⟨fun q => by first | rfl | omega, fun q => by first | rfl | omega⟩, rfl⟩

theorem mX5_many {l : Launch} {G : gx_G} (hG : gx_OK G 76) (J : zJ) {n : Nat} (hI : Cinv J n) {w : Int} (hw : zB w) : zMi l G yX5_many cX5_many 2 .int rmX5_many [.ref (gx_ad G 0), .int (zI w)] J (fun r J' => ((w = 0 → r = (n : Int)) ∧ (w = 1 → r = 12 * bcZ (J 1 1)) ∧ (w = 2 → r = sumN (fun b => J (14 + 15 + 2 * b) 3) n) ∧ (w = 3 → r = sumN (fun b => J (14 + 15 + 2 * b) 4) n) ∧ (w = 4 → r = sumN (fun b => J (14 + 15 + 2 * b) 2) n) ∧ (w = 5 → r = if J 11 3 = -1 then 0 else sumN (tct (J 11 2) (J 11 3)) n) ∧ (w = 6 → r = J 1 0) ∧ (w = 7 → r = J 1 1) ∧ (¬ (0 ≤ w ∧ w ≤ 7) → r = -1)) ∧ J' = J) := by
  refine gx_mi hG (by decide) (Nat.le_of_ble_eq_true rfl) (fun X hla B Rt => ?_)
  subst hla
  have B : gx_B G X RX5 cX5_many 2 rmX5_many 76 := B
  show gx_WG G X 2 (zh J) 0 [(0, .ref (gx_ad G 0)), (1, .int (zI w))] []
  have h8 := hI.1.2.2.2.2.2.1.2.1
  have h5 := hI.1.2.2.2.2.2.1.1
  obtain ⟨v1, v2, v3, v4, v5, v6, v7⟩ := id hI.1
  obtain ⟨hw1, hw2, hw3⟩ := hI.way
  have hwB : zB (J 11 3) := ⟨by omega, by omega⟩
  refine gx_iload_n B dX5_many_0 rfl rfl ?_
  by_cases sw1 : 0 ≤ w ∧ w ≤ 7
  · have sw1r : w = 0 ∨ w = 1 ∨ w = 2 ∨ w = 3 ∨ w = 4 ∨ w = 5 ∨ w = 6 ∨ w = 7 := by omega
    rcases sw1r with sw1_0 | sw1_1 | sw1_2 | sw1_3 | sw1_4 | sw1_5 | sw1_6 | sw1_7
    · refine z_swIn (off := 47) (tgt := 48) B dX5_many_1 ⟨by omega, by omega⟩ (by omega) (by omega) (by rw [sw1_0]; decide) (by decide) ?_
      refine gx_aload_n B dX5_many_48 rfl rfl ?_
      refine gx_getr (t := 1) B fl_X5_10 rfl (by decide) rfl dX5_many_49 ?_
      refine z_geti B fl_X5_86 (kDesk pD1) (bDesk pD1) (zDesk5 pD1) dX5_many_52 ?_
      refine z_ireti B Rt dX5_many_55 ?_
      refine ⟨⟨fun q => ?_, fun q => ?_, fun q => ?_, fun q => ?_, fun q => ?_, fun q => ?_, fun q => ?_, fun q => ?_, fun q => ?_⟩, rfl⟩ <;> first | (exfalso; omega) | rfl | exact h5 | rw [if_pos (Decidable.not_not.mp c122)] | rw [if_neg c122]
    · refine z_swIn (off := 55) (tgt := 56) B dX5_many_1 ⟨by omega, by omega⟩ (by omega) (by omega) (by rw [sw1_1]; decide) (by decide) ?_
      refine z_bipush B dX5_many_56 (by decide) ?_
      refine gx_aload_n B dX5_many_58 rfl rfl ?_
      refine gx_getr (t := 1) B fl_X5_10 rfl (by decide) rfl dX5_many_59 ?_
      refine z_geti B fl_X5_48 (kDesk pD1) (bDesk pD1) (zDesk1 pD1) dX5_many_62 ?_
      refine z_callSi [.int (zI (J 1 1))] B ls_X5_175 (mJ6_bitCount hG J (x := J 1 1)) rfl rfl (Nat.le_of_ble_eq_true rfl) (by decide) (by decide) dX5_many_65 (fun r3 J2 hJ2 => ?_)
      rw [show r3 = bcZ (J 1 1) from hJ2.1, hJ2.2]
      refine z_imul B dX5_many_68 ?_
      refine z_ireti B Rt dX5_many_69 ?_
      refine ⟨⟨fun q => ?_, fun q => ?_, fun q => ?_, fun q => ?_, fun q => ?_, fun q => ?_, fun q => ?_, fun q => ?_, fun q => ?_⟩, rfl⟩ <;> first | (exfalso; omega) | rfl | exact h5 | rw [if_pos (Decidable.not_not.mp c122)] | rw [if_neg c122]
    · refine z_swIn (off := 69) (tgt := 70) B dX5_many_1 ⟨by omega, by omega⟩ (by omega) (by omega) (by rw [sw1_2]; decide) (by decide) ?_
      refine gx_aload_n B dX5_many_70 rfl rfl ?_
      refine gx_getr (t := 14) B fl_X5_26 rfl (by decide) rfl dX5_many_71 ?_
      refine gx_aload_n B dX5_many_74 rfl rfl ?_
      refine gx_getr (t := 1) B fl_X5_10 rfl (by decide) rfl dX5_many_75 ?_
      refine z_geti B fl_X5_86 (kDesk pD1) (bDesk pD1) (zDesk5 pD1) dX5_many_78 ?_
      rw [show J 1 5 = (n : Int) from h5]
      refine z_callVi [.int (zI (n : Int))] B lv_X5_180 (mX4_lackOfAll hG pH0 J (n := n) h8) (kHand pH0) (bHand pH0) rfl rfl (Nat.le_of_ble_eq_true rfl) (by decide) (by decide) dX5_many_81 (fun r5 J4 hJ4 => ?_)
      rw [show r5 = sumN (fun b => J (14 + 15 + 2 * b) 3) n from hJ4.1, hJ4.2]
      refine z_ireti B Rt dX5_many_84 ?_
      refine ⟨⟨fun q => ?_, fun q => ?_, fun q => ?_, fun q => ?_, fun q => ?_, fun q => ?_, fun q => ?_, fun q => ?_, fun q => ?_⟩, rfl⟩ <;> first | (exfalso; omega) | rfl | exact h5 | rw [if_pos (Decidable.not_not.mp c122)] | rw [if_neg c122]
    · refine z_swIn (off := 84) (tgt := 85) B dX5_many_1 ⟨by omega, by omega⟩ (by omega) (by omega) (by rw [sw1_3]; decide) (by decide) ?_
      refine gx_aload_n B dX5_many_85 rfl rfl ?_
      refine gx_getr (t := 14) B fl_X5_26 rfl (by decide) rfl dX5_many_86 ?_
      refine gx_aload_n B dX5_many_89 rfl rfl ?_
      refine gx_getr (t := 1) B fl_X5_10 rfl (by decide) rfl dX5_many_90 ?_
      refine z_geti B fl_X5_86 (kDesk pD1) (bDesk pD1) (zDesk5 pD1) dX5_many_93 ?_
      rw [show J 1 5 = (n : Int) from h5]
      refine z_callVi [.int (zI (n : Int))] B lv_X5_183 (mX4_extraOfAll hG pH0 J (n := n) h8) (kHand pH0) (bHand pH0) rfl rfl (Nat.le_of_ble_eq_true rfl) (by decide) (by decide) dX5_many_96 (fun r7 J6 hJ6 => ?_)
      rw [show r7 = sumN (fun b => J (14 + 15 + 2 * b) 4) n from hJ6.1, hJ6.2]
      refine z_ireti B Rt dX5_many_99 ?_
      refine ⟨⟨fun q => ?_, fun q => ?_, fun q => ?_, fun q => ?_, fun q => ?_, fun q => ?_, fun q => ?_, fun q => ?_, fun q => ?_⟩, rfl⟩ <;> first | (exfalso; omega) | rfl | exact h5 | rw [if_pos (Decidable.not_not.mp c122)] | rw [if_neg c122]
    · refine z_swIn (off := 99) (tgt := 100) B dX5_many_1 ⟨by omega, by omega⟩ (by omega) (by omega) (by rw [sw1_4]; decide) (by decide) ?_
      refine gx_aload_n B dX5_many_100 rfl rfl ?_
      refine gx_getr (t := 14) B fl_X5_26 rfl (by decide) rfl dX5_many_101 ?_
      refine gx_aload_n B dX5_many_104 rfl rfl ?_
      refine gx_getr (t := 1) B fl_X5_10 rfl (by decide) rfl dX5_many_105 ?_
      refine z_geti B fl_X5_86 (kDesk pD1) (bDesk pD1) (zDesk5 pD1) dX5_many_108 ?_
      rw [show J 1 5 = (n : Int) from h5]
      refine z_callVi [.int (zI (n : Int))] B lv_X5_186 (mX4_buttonsOfAll hG pH0 J (n := n) h8) (kHand pH0) (bHand pH0) rfl rfl (Nat.le_of_ble_eq_true rfl) (by decide) (by decide) dX5_many_111 (fun r9 J8 hJ8 => ?_)
      rw [show r9 = sumN (fun b => J (14 + 15 + 2 * b) 2) n from hJ8.1, hJ8.2]
      refine z_ireti B Rt dX5_many_114 ?_
      refine ⟨⟨fun q => ?_, fun q => ?_, fun q => ?_, fun q => ?_, fun q => ?_, fun q => ?_, fun q => ?_, fun q => ?_, fun q => ?_⟩, rfl⟩ <;> first | (exfalso; omega) | rfl | exact h5 | rw [if_pos (Decidable.not_not.mp c122)] | rw [if_neg c122]
    · refine z_swIn (off := 114) (tgt := 115) B dX5_many_1 ⟨by omega, by omega⟩ (by omega) (by omega) (by rw [sw1_5]; decide) (by decide) ?_
      refine gx_aload_n B dX5_many_115 rfl rfl ?_
      refine gx_getr (t := 11) B fl_X5_36 rfl (by decide) rfl dX5_many_116 ?_
      refine z_callVi [] B lv_X5_153 (mX0_hasWay hG J hwB) rfl (by decide) rfl rfl (Nat.le_of_ble_eq_true rfl) (by decide) (by decide) dX5_many_119 (fun r11 J10 hJ10 => ?_)
      rw [show r11 = bz (¬ J 11 3 = -1) from hJ10.1, hJ10.2]
      refine z_if_eq (tgt := 142) B dX5_many_122 (bzB _) (by decide) (fun c122 => ?_) (fun c122 => ?_)
      · rw [bz_0] at c122
        refine z_iconst B dX5_many_142 ?_
        refine z_ireti B Rt dX5_many_143 ?_
        refine ⟨⟨fun q => ?_, fun q => ?_, fun q => ?_, fun q => ?_, fun q => ?_, fun q => ?_, fun q => ?_, fun q => ?_, fun q => ?_⟩, rfl⟩ <;> first | (exfalso; omega) | rfl | exact h5 | rw [if_pos (Decidable.not_not.mp c122)] | rw [if_neg c122]
      · rw [bz_n0] at c122
        refine gx_aload_n B dX5_many_125 rfl rfl ?_
        refine gx_getr (t := 11) B fl_X5_36 rfl (by decide) rfl dX5_many_126 ?_
        refine gx_aload_n B dX5_many_129 rfl rfl ?_
        refine gx_getr (t := 11) B fl_X5_36 rfl (by decide) rfl dX5_many_130 ?_
        refine z_geti B fl_X5_157 rfl (by decide) rfl dX5_many_133 ?_
        refine z_callVi [.int (zI (J 11 3))] B lv_X5_189 (mX0_turnsOf hG J (t := J 11 3) (N := n) (BPre.of hI.1 hI.2.1.2.2.1 hI.2.1.2.2.2.1)) rfl (by decide) rfl rfl (Nat.le_of_ble_eq_true rfl) (by decide) (by decide) dX5_many_136 (fun r13 J12 hJ12 => ?_)
        rw [show r13 = sumN (tct (J 11 2) (J 11 3)) n from hJ12.1, hJ12.2]
        refine gx_goto (tgt := 143) B dX5_many_139 (by decide) ?_
        refine z_ireti B Rt dX5_many_143 ?_
        refine ⟨⟨fun q => ?_, fun q => ?_, fun q => ?_, fun q => ?_, fun q => ?_, fun q => ?_, fun q => ?_, fun q => ?_, fun q => ?_⟩, rfl⟩ <;> first | (exfalso; omega) | rfl | exact h5 | rw [if_pos (Decidable.not_not.mp c122)] | rw [if_neg c122]
    · refine z_swIn (off := 143) (tgt := 144) B dX5_many_1 ⟨by omega, by omega⟩ (by omega) (by omega) (by rw [sw1_6]; decide) (by decide) ?_
      refine gx_aload_n B dX5_many_144 rfl rfl ?_
      refine gx_getr (t := 1) B fl_X5_10 rfl (by decide) rfl dX5_many_145 ?_
      refine z_geti B fl_X5_44 (kDesk pD1) (bDesk pD1) (zDesk0 pD1) dX5_many_148 ?_
      refine z_ireti B Rt dX5_many_151 ?_
      refine ⟨⟨fun q => ?_, fun q => ?_, fun q => ?_, fun q => ?_, fun q => ?_, fun q => ?_, fun q => ?_, fun q => ?_, fun q => ?_⟩, rfl⟩ <;> first | (exfalso; omega) | rfl | exact h5 | rw [if_pos (Decidable.not_not.mp c122)] | rw [if_neg c122]
    · refine z_swIn (off := 151) (tgt := 152) B dX5_many_1 ⟨by omega, by omega⟩ (by omega) (by omega) (by rw [sw1_7]; decide) (by decide) ?_
      refine gx_aload_n B dX5_many_152 rfl rfl ?_
      refine gx_getr (t := 1) B fl_X5_10 rfl (by decide) rfl dX5_many_153 ?_
      refine z_geti B fl_X5_48 (kDesk pD1) (bDesk pD1) (zDesk1 pD1) dX5_many_156 ?_
      refine z_ireti B Rt dX5_many_159 ?_
      refine ⟨⟨fun q => ?_, fun q => ?_, fun q => ?_, fun q => ?_, fun q => ?_, fun q => ?_, fun q => ?_, fun q => ?_, fun q => ?_⟩, rfl⟩ <;> first | (exfalso; omega) | rfl | exact h5 | rw [if_pos (Decidable.not_not.mp c122)] | rw [if_neg c122]
  · refine z_swOut (tgt := 160) B dX5_many_1 ⟨by omega, by omega⟩ (by omega) (by decide) ?_
    refine z_iconst B dX5_many_160 ?_
    refine z_ireti B Rt dX5_many_161 ?_
    refine ⟨⟨fun q => ?_, fun q => ?_, fun q => ?_, fun q => ?_, fun q => ?_, fun q => ?_, fun q => ?_, fun q => ?_, fun q => ?_⟩, rfl⟩ <;> first | (exfalso; omega) | rfl | exact h5 | rw [if_pos (Decidable.not_not.mp c122)] | rw [if_neg c122]


def difZ (J : zJ) (b : Nat) : Int := 1 - bz (J (14 + 15 + 2 * b) 2 = J (45 + 15 + 2 * b) 2 ∧ J (14 + 15 + 2 * b + 1) (hch J 14 b) = J (45 + 15 + 2 * b + 1) (hch J 45 b))

theorem lpChg {G : gx_G} {X : gx_X} (hG : gx_OK G 76) (B : gx_B G X RX5 cX5_changed 5 rmX5_changed 76) {J : zJ} {n : Nat} {a b : Int} {bs2 rw2 : Int} {ch lo ch2 lo2 : Nat → Int} (h5 : J 1 5 = (n : Int)) (h8 : n ≤ 8) {bs1 rw1 : Int} (hL1 : Lrn J 14 bs1 rw1 n ch lo) (hH1 : HandOK J 14 n) (hL2 : Lrn J 45 bs2 rw2 n ch2 lo2) (hH2 : HandOK J 45 n) {post : Int → zJ → Prop} (Rt : gx_Ri G X .int (zpi post)) (hp : post (sumN (difZ J) n) J) : ∀ i : Nat, i ≤ n → gx_WG G X 5 (zh J) 42 [(0, .ref (gx_ad G 0)), (1, .int (zI a)), (2, .int (zI b)), (3, .int (zI (sumN (difZ J) i))), (4, .int (zI (i : Int)))] [] := by
  refine up_ind (fun i hi ih => ?_)
  refine gx_iload B dX5_changed_42 rfl ?_
  refine gx_aload_n B dX5_changed_44 rfl rfl ?_
  refine gx_getr (t := 1) B fl_X5_10 rfl (by decide) rfl dX5_changed_45 ?_
  refine z_geti B fl_X5_86 (kDesk pD1) (bDesk pD1) (zDesk5 pD1) dX5_changed_48 ?_
  refine z_icmp_ge (tgt := 79) B dX5_changed_51 ⟨by omega, by omega⟩ ⟨by omega, by omega⟩ (by decide) (fun c51 => ?_) (fun c51 => ?_)
  · refine gx_iload_n B dX5_changed_79 rfl rfl ?_
    refine z_ireti B Rt dX5_changed_80 ?_
    obtain rfl : i = n := by omega
    exact hp
  · have hg1 := (hL1.2 i (by omega)).le
    have hg2 := (hL2.2 i (by omega)).le
    have hc1 := hH1.ch (hL1.pre h8) (b := i) (by omega)
    have hc2 := hH2.ch (hL2.pre h8) (b := i) (by omega)
    have hg11 := hg1.2.2.1
    have hg12 := hg1.2.2.2.1
    have hg21 := hg2.2.2.1
    have hg22 := hg2.2.2.2.1
    refine gx_aload_n B dX5_changed_54 rfl rfl ?_
    refine gx_getr (t := 14) B fl_X5_26 rfl (by decide) rfl dX5_changed_55 ?_
    refine gx_aload_n B dX5_changed_58 rfl rfl ?_
    refine gx_getr (t := 45) B fl_X5_30 rfl (by decide) rfl dX5_changed_59 ?_
    refine gx_iload B dX5_changed_62 rfl ?_
    refine z_callVi [.ref (gx_ad G 45), .int (zI (i : Int))] B lv_X5_146 (mX4_hasSameButtons hG pH0 pH1 J (b := i) (by omega) ⟨by omega, by omega⟩ ⟨by omega, by omega⟩ hc1.1 hc2.1 (by have := (hg1.2.2.2.2 (hch J 14 i) hc1.2.2).1; exact ⟨by omega, by omega⟩) (by have := (hg2.2.2.2.2 (hch J 45 i) hc2.2.2).1; exact ⟨by omega, by omega⟩)) (kHand pH0) (bHand pH0) rfl rfl (Nat.le_of_ble_eq_true rfl) (by decide) (by decide) dX5_changed_64 (fun r2 J1 hJ1 => ?_)
    rw [show r2 = bz (J (14 + 15 + 2 * i) 2 = J (45 + 15 + 2 * i) 2 ∧ J (14 + 15 + 2 * i + 1) (hch J 14 i) = J (45 + 15 + 2 * i + 1) (hch J 45 i)) from hJ1.1, hJ1.2]
    refine z_if_ne (tgt := 73) B dX5_changed_67 (bzB _) (by decide) (fun c67 => ?_) (fun c67 => ?_)
    · have e2 : sumN (difZ J) (i + 1) = sumN (difZ J) i := by
        show sumN (difZ J) i + difZ J i = _
        unfold difZ
        rw [bz_n0] at c67
        rw [bz_1.mpr c67]; omega
      refine z_iinc (fun v9 => [(0, .ref (gx_ad G 0)), (1, .int (zI a)), (2, .int (zI b)), (3, .int (zI (sumN (difZ J) i))), (4, .int (zI v9))]) B dX5_changed_73 rfl (by decide) rfl (fun _ => rfl) (fun v4 hv4 => ?_)
      rw [show v4 = ((i + 1 : Nat) : Int) from (by omega)]
      refine gx_goto (tgt := 42) B dX5_changed_76 (by decide) ?_
      have h9 := ih (by omega)
      rw [e2] at h9
      exact h9
    · have e2 : sumN (difZ J) (i + 1) = sumN (difZ J) i + 1 := by
        show sumN (difZ J) i + difZ J i = _
        unfold difZ
        rw [c67]; omega
      refine z_iinc (fun v9 => [(0, .ref (gx_ad G 0)), (1, .int (zI a)), (2, .int (zI b)), (3, .int (zI v9)), (4, .int (zI (i : Int)))]) B dX5_changed_70 rfl (by decide) rfl (fun _ => rfl) (fun v3 hv3 => ?_)
      rw [show v3 = sumN (difZ J) (i + 1) from (by rw [hv3, e2])]
      refine z_iinc (fun v9 => [(0, .ref (gx_ad G 0)), (1, .int (zI a)), (2, .int (zI b)), (3, .int (zI (sumN (difZ J) (i + 1)))), (4, .int (zI v9))]) B dX5_changed_73 rfl (by decide) rfl (fun _ => rfl) (fun v4 hv4 => ?_)
      rw [show v4 = ((i + 1 : Nat) : Int) from (by omega)]
      refine gx_goto (tgt := 42) B dX5_changed_76 (by decide) ?_
      have h9 := ih (by omega)
      exact h9

theorem mX5_changed {l : Launch} {G : gx_G} (hG : gx_OK G 76) (J : zJ) {n : Nat} (hI : Cinv J n) {a b : Int} (ha : zB a) (hb : zB b) : zMi l G yX5_changed cX5_changed 5 .int rmX5_changed [.ref (gx_ad G 0), .int (zI a), .int (zI b)] J (fun r J' => ((0 ≤ a ∧ a < 12 ∧ 0 ≤ b ∧ b ≤ 63) ∧ r = sumN (difZ J') n ∧ Cinv J' n ∧ Core J J' ∧ Lrn J' 45 a b n (J 2) (J 3) ∧ HandOK J' 45 n) ∨ (¬ (0 ≤ a ∧ a < 12 ∧ 0 ≤ b ∧ b ≤ 63) ∧ r = -1 ∧ J' = J)) := by
  refine gx_mi hG (by decide) (Nat.le_of_ble_eq_true rfl) (fun X hla B Rt => ?_)
  subst hla
  have B : gx_B G X RX5 cX5_changed 5 rmX5_changed 76 := B
  show gx_WG G X 5 (zh J) 0 [(0, .ref (gx_ad G 0)), (1, .int (zI a)), (2, .int (zI b))] []
  have h8 := hI.1.2.2.2.2.2.1.2.1
  have h5 := hI.1.2.2.2.2.2.1.1
  obtain ⟨v1, v2, v3, v4, v5, v6, v7⟩ := id hI.1
  refine gx_iload_n B dX5_changed_0 rfl rfl ?_
  refine gx_iload_n B dX5_changed_1 rfl rfl ?_
  refine z_callSi [.int (zI a), .int (zI b)] B ls_X5_40 (mX5_isSystem hG J ha hb) rfl rfl (Nat.le_of_ble_eq_true rfl) (by decide) (by decide) dX5_changed_2 (fun r2 J1 hJ1 => ?_)
  rw [show r2 = bz (0 ≤ a ∧ a < 12 ∧ 0 ≤ b ∧ b ≤ 63) from hJ1.1, hJ1.2]
  refine z_if_ne (tgt := 10) B dX5_changed_5 (bzB _) (by decide) (fun c5 => ?_) (fun c5 => ?_)
  · rw [bz_n0] at c5
    refine gx_aload_n B dX5_changed_10 rfl rfl ?_
    refine gx_getr (t := 45) B fl_X5_30 rfl (by decide) rfl dX5_changed_11 ?_
    refine gx_iload_n B dX5_changed_14 rfl rfl ?_
    refine gx_iload_n B dX5_changed_15 rfl rfl ?_
    refine gx_aload_n B dX5_changed_16 rfl rfl ?_
    refine gx_getr (t := 1) B fl_X5_10 rfl (by decide) rfl dX5_changed_17 ?_
    refine z_callVv [.int (zI a), .int (zI b), .ref (gx_ad G 1)] B lv_X5_51 (mX4_learn hG pH1 pD1 J (n := n) (base := a) (rows := b) c5.1 c5.2.1 hI.1.2.2.2.2.2.1) (kHand pH1) (bHand pH1) rfl rfl (Nat.le_of_ble_eq_true rfl) (by decide) (by decide) dX5_changed_20 (fun J1 hJ1 => ?_)
    refine gx_aload_n B dX5_changed_23 rfl rfl ?_
    refine gx_getr (t := 45) B fl_X5_30 rfl (by decide) rfl dX5_changed_24 ?_
    refine gx_aload_n B dX5_changed_27 rfl rfl ?_
    refine gx_getr (t := 1) B fl_X5_10 rfl (by decide) rfl dX5_changed_28 ?_
    refine z_geti B fl_X5_86 (kDesk pD1) (bDesk pD1) (zDesk5 pD1) dX5_changed_31 ?_
    rw [show J1 1 5 = (n : Int) from (by rw [hJ1.2 1 5 (by omega) (by omega)]; exact h5)]
    refine z_callVv [.int (zI (n : Int))] B lv_X5_143 (mX4_choose hG pH1 J1 (n := n) (hJ1.1.pre h8)) (kHand pH1) (bHand pH1) rfl rfl (Nat.le_of_ble_eq_true rfl) (by decide) (by decide) dX5_changed_34 (fun J2 hJ2 => ?_)
    refine z_iconst B dX5_changed_37 ?_
    refine z_istore_n (fun v9 => [(0, .ref (gx_ad G 0)), (1, .int (zI a)), (2, .int (zI b)), (3, .int (zI v9))]) B dX5_changed_38 rfl (by decide) rfl (fun _ => rfl) (fun v3 hv3 => ?_)
    rw [show v3 = sumN (difZ J2) 0 from (by rw [hv3]; rfl)]
    refine z_iconst B dX5_changed_39 ?_
    refine z_istore (fun v9 => [(0, .ref (gx_ad G 0)), (1, .int (zI a)), (2, .int (zI b)), (3, .int (zI (sumN (difZ J2) 0))), (4, .int (zI v9))]) B dX5_changed_40 (by decide) rfl (fun _ => rfl) (fun v4 hv4 => ?_)
    rw [show v4 = ((0 : Nat) : Int) from (by omega)]
    have fr1 : ∀ x k, ¬ (45 ≤ x ∧ x ≤ 75) → J1 x k = J x k := fun x k h => hJ1.2 x k (by omega) (by omega)
    have fr2 : ∀ x k, ¬ (45 ≤ x ∧ x ≤ 75) → J2 x k = J x k := fun x k h => by rw [hJ2.2 x k (by omega) (by omega) (by omega), fr1 x k h]
    have hL2 : Lrn J2 45 a b n (J 2) (J 3) := hJ1.1.keep (fun x k h => hJ2.2 x k (by omega) (by omega) (by omega)) h8
    have hLp : Lrn J2 14 (J 1 0) (J 1 1) n (J 2) (J 3) := hI.2.1.1.keep (fun x k h => fr2 x k (by omega)) h8
    have hHp : HandOK J2 14 n := hI.2.1.2.1.keep (fun x k h => fr2 x k (by omega)) h8
    refine lpChg hG B (by rw [fr2 1 5 (by omega)]; exact h5) h8 hLp hHp hL2 hJ2.1 Rt (Or.inl ⟨c5, rfl, ?_, fun x k h => fr2 x k (by omega), hL2, hJ2.1⟩) 0 (by omega)
    refine ⟨hI.1.keep (fun x k h1 h2 => fr2 x k (by omega)), ⟨?_, hHp, ?_⟩, ?_⟩
    · rw [fr2 1 0 (by omega), fr2 1 1 (by omega), show J2 2 = J 2 from funext fun k => fr2 2 k (by omega), show J2 3 = J 3 from funext fun k => fr2 3 k (by omega)]; exact hLp
    · obtain ⟨b1, b2, b3⟩ := hI.2.1.2.2
      refine ⟨by rw [fr2 11 2 (by omega)]; exact b1, fun b hb => ?_, ?_⟩
      · rw [fr2 12 b (by omega), fr2 13 b (by omega), fr2 5 b (by omega)]
        have : useZ J2 14 b = useZ J 14 b := by
          unfold useZ
          rw [fr2 4 b (by omega), fr2 1 2 (by omega), hnt_congr (fun k => fr2 _ k (by omega)) (fr2 _ _ (by omega)) (fun k => fr2 _ k (by omega)) (fun k => fr2 _ k (by omega))]
        rw [this]; exact b2 b hb
      · unfold BelN at b3 ⊢
        rw [fr2 11 2 (by omega), show J2 12 = J 12 from funext fun k => fr2 12 k (by omega), show J2 13 = J 13 from funext fun k => fr2 13 k (by omega), fr2 1 4 (by omega), fr2 1 3 (by omega), fr2 11 3 (by omega), fr2 11 4 (by omega), fr2 11 5 (by omega)]
        exact b3
    · rw [fr2 0 2 (by omega)]
      rcases hI.2.2 with q | ⟨q, p, hp⟩
      · exact Or.inl q
      · exact Or.inr ⟨q, p, hp.keep (fun x k h1 h2 => fr2 x k (by omega))⟩
  · rw [bz_0] at c5
    refine z_iconst B dX5_changed_8 ?_
    refine z_ireti B Rt dX5_changed_9 ?_
    exact Or.inr ⟨c5, rfl, rfl⟩

