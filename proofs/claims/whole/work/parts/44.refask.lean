
/-- what the reference's questions leave -/
abbrev RFr (J J' : zJ) : Prop := ∀ x k, ¬ (80 ≤ x ∧ x ≤ 89) → ¬ (x = 76 ∧ k ≠ 2) → J' x k = J x k
theorem FFr.r {J J' : zJ} (h : FFr J J') : RFr J J' := fun x k h1 h2 => h x k (by omega) (by omega)
theorem VM.keepR {J J' : zJ} {n : Nat} (h : VM J n) (e : RFr J J') : VM J' n := by
  unfold VM
  have e7 : ∀ k, J' 77 k = J 77 k := fun k => e _ _ (by omega) (by omega)
  have e8 : ∀ k, J' 78 k = J 78 k := fun k => e _ _ (by omega) (by omega)
  have e9 : ∀ k, J' 90 k = J 90 k := fun k => e _ _ (by omega) (by omega)
  simp only [e7, e8, e9]
  exact h
theorem HFound.keep {J0 J J' : zJ} {n : Nat} (h : HFound J0 J n) (e : ∀ x k, (80 ≤ x ∧ x ≤ 87) ∨ (x = 76 ∧ k = 13) → J' x k = J x k) : HFound J0 J' n := by
  have e82 : J' 82 = J 82 := funext fun x => e _ _ (by omega)
  have e83 : J' 83 = J 83 := funext fun x => e _ _ (by omega)
  have ect : mct J' = mct J := funext fun x => by unfold mct; rw [e83]
  have epl : mpl J' = mpl J := funext fun x => funext fun y => by unfold mpl; rw [e _ _ (by omega)]
  have etc : mtc J' = mtc J := funext fun x => funext fun y => e _ _ (by omega)
  have e87 : J' 87 = J 87 := funext fun x => e _ _ (by omega)
  have ech : mch J' = mch J := funext fun x => by unfold mch; rw [e87]
  refine ⟨fun b hb => ⟨MG.keepb (h.1 b hb).1 (gMc01 _ _ _ _) (fun x h1 h2 => e _ _ (by omega)) (fun q h1 h2 => e _ _ (by omega)), ?_⟩, ?_⟩
  · rw [e82, ect, epl, etc]; exact (h.1 b hb).2
  · unfold HSm
    rw [e82, e83, ect, epl, etc, ech, e87, e 76 13 (by omega)]; exact h.2
theorem HFound.bn {J0 J : zJ} {n b : Nat} (h : HFound J0 J n) (hb : b < n) : (0 ≤ J 82 b ∧ J 82 b ≤ 3) ∧ (0 ≤ J 87 b ∧ J 87 b < 20) := by
  have h1 := (h.1 b hb).1.pl
  have h2 := h.2.1 b hb
  refine ⟨h1.1, h2.1, ?_⟩
  have h3 := h2.2
  split at h3 <;> omega
theorem mnt_congr {J J' : zJ} {b : Nat} (e0 : J' 77 0 = J 77 0) (e : ∀ x k, (80 ≤ x ∧ x ≤ 87) → J' x k = J x k) : mnt J' b = mnt J b := by
  unfold mnt
  rw [e0, e 87 b (by omega), e 82 b (by omega), show J' 84 = J 84 from funext fun q => e _ _ (by omega)]
def btA (J : zJ) (b i : Nat) : Int := if (i : Int) < J 82 b then J 84 (60 * b + 3 * (J 87 b).toNat + i) else -1

theorem mX6_hand {l : Launch} {G : gx_G} (hG : gx_OK G 91) (J : zJ) {n : Nat} (hM : VM J n) {b : Int} (hb : zB b) : zMi l G yX6_hand cX6_hand 2 .int rmX6_hand [.ref (gx_ad G 76), .int (zI b)] J (fun r J' => ((0 ≤ b ∧ b < n) ∧ HFound J J' n ∧ RFr J J' ∧ r = J' 87 b.toNat) ∨ (¬ (0 ≤ b ∧ b < n) ∧ r = -1 ∧ J' = J)) := by
  refine gx_mi hG (by decide) (Nat.le_of_ble_eq_true rfl) (fun X hla B Rt => ?_)
  subst hla
  have B : gx_B G X RX6 cX6_hand 2 rmX6_hand 91 := B
  show gx_WG G X 2 (zh J) 0 [(0, .ref (gx_ad G 76)), (1, .int (zI b))] []
  obtain ⟨v1, v2, v3, v4, v5, ⟨h5, h8⟩, v7, v8⟩ := id hM
  refine gx_aload_n B dX6_hand_0 rfl rfl ?_
  refine gx_iload_n B dX6_hand_1 rfl rfl ?_
  refine z_callVi [.int (zI b)] B lv_X6_79 (mX6_isBeat hG J hM hb) rfl (by decide) rfl rfl (Nat.le_of_ble_eq_true rfl) (by decide) (by decide) dX6_hand_2 (fun r2 J1 hJ1 => ?_)
  rw [show r2 = bz (0 ≤ b ∧ b < n) from hJ1.1, hJ1.2]
  refine z_if_ne (tgt := 10) B dX6_hand_5 (bzB _) (by decide) (fun c5 => ?_) (fun c5 => ?_)
  · rw [bz_n0] at c5
    obtain ⟨bb, rfl⟩ : ∃ bb : Nat, b = (bb : Int) := ⟨b.toNat, by omega⟩
    refine gx_aload_n B dX6_hand_10 rfl rfl ?_
    refine z_callVv [] B lv_X6_124 (mX6_findHand hG J hM) rfl (by decide) rfl rfl (Nat.le_of_ble_eq_true rfl) (by decide) (by decide) dX6_hand_11 (fun J1 hJ1 => ?_)
    refine gx_aload_n B dX6_hand_14 rfl rfl ?_
    refine gx_getr (t := 87) B fl_X6_40 rfl (by decide) rfl dX6_hand_15 ?_
    refine gx_iload_n B dX6_hand_18 rfl rfl ?_
    refine z_iald bb B rfl (by decide) rfl (show bb < 8 by omega) (by decide) dX6_hand_19 ?_
    refine z_ireti B Rt dX6_hand_20 ?_
    exact Or.inl ⟨c5, hJ1.1, hJ1.2.r, rfl⟩
  · rw [bz_0] at c5
    refine z_iconst B dX6_hand_8 ?_
    refine z_ireti B Rt dX6_hand_9 ?_
    exact Or.inr ⟨c5, rfl, rfl⟩

theorem mX6_jumps {l : Launch} {G : gx_G} (hG : gx_OK G 91) (J : zJ) {n : Nat} (hM : VM J n)  : zMi l G yX6_jumps cX6_jumps 1 .int rmX6_jumps [.ref (gx_ad G 76)] J (fun r J' => HFound J J' n ∧ RFr J J' ∧ r = J' 76 13) := by
  refine gx_mi hG (by decide) (Nat.le_of_ble_eq_true rfl) (fun X hla B Rt => ?_)
  subst hla
  have B : gx_B G X RX6 cX6_jumps 1 rmX6_jumps 91 := B
  show gx_WG G X 1 (zh J) 0 [(0, .ref (gx_ad G 76))] []
  obtain ⟨v1, v2, v3, v4, v5, ⟨h5, h8⟩, v7, v8⟩ := id hM
  refine gx_aload_n B dX6_jumps_0 rfl rfl ?_
  refine z_callVv [] B lv_X6_124 (mX6_findHand hG J hM) rfl (by decide) rfl rfl (Nat.le_of_ble_eq_true rfl) (by decide) (by decide) dX6_jumps_1 (fun J1 hJ1 => ?_)
  refine gx_aload_n B dX6_jumps_4 rfl rfl ?_
  refine z_geti B fl_X6_121 rfl (by decide) rfl dX6_jumps_5 ?_
  refine z_ireti B Rt dX6_jumps_8 ?_
  exact ⟨hJ1.1, hJ1.2.r, rfl⟩

theorem mX6_sounds {l : Launch} {G : gx_G} (hG : gx_OK G 91) (J : zJ) {n : Nat} (hM : VM J n) {b : Int} (hb : zB b) : zMi l G yX6_sounds cX6_sounds 2 .int rmX6_sounds [.ref (gx_ad G 76), .int (zI b)] J (fun r J' => ((0 ≤ b ∧ b < n) ∧ HFound J J' n ∧ RFr J J' ∧ r = mnt J' b.toNat) ∨ (¬ (0 ≤ b ∧ b < n) ∧ r = -1 ∧ J' = J)) := by
  refine gx_mi hG (by decide) (Nat.le_of_ble_eq_true rfl) (fun X hla B Rt => ?_)
  subst hla
  have B : gx_B G X RX6 cX6_sounds 2 rmX6_sounds 91 := B
  show gx_WG G X 2 (zh J) 0 [(0, .ref (gx_ad G 76)), (1, .int (zI b))] []
  obtain ⟨v1, v2, v3, v4, v5, ⟨h5, h8⟩, v7, v8⟩ := id hM
  refine gx_aload_n B dX6_sounds_0 rfl rfl ?_
  refine gx_iload_n B dX6_sounds_1 rfl rfl ?_
  refine z_callVi [.int (zI b)] B lv_X6_79 (mX6_isBeat hG J hM hb) rfl (by decide) rfl rfl (Nat.le_of_ble_eq_true rfl) (by decide) (by decide) dX6_sounds_2 (fun r2 J1 hJ1 => ?_)
  rw [show r2 = bz (0 ≤ b ∧ b < n) from hJ1.1, hJ1.2]
  refine z_if_ne (tgt := 10) B dX6_sounds_5 (bzB _) (by decide) (fun c5 => ?_) (fun c5 => ?_)
  · rw [bz_n0] at c5
    obtain ⟨bb, rfl⟩ : ∃ bb : Nat, b = (bb : Int) := ⟨b.toNat, by omega⟩
    refine gx_aload_n B dX6_sounds_10 rfl rfl ?_
    refine z_callVv [] B lv_X6_124 (mX6_findHand hG J hM) rfl (by decide) rfl rfl (Nat.le_of_ble_eq_true rfl) (by decide) (by decide) dX6_sounds_11 (fun J1 hJ1 => ?_)
    refine gx_aload_n B dX6_sounds_14 rfl rfl ?_
    refine gx_iload_n B dX6_sounds_15 rfl rfl ?_
    refine z_callVi [.int (zI (bb : Int))] B lv_X6_127 (mX6_heardAt hG J1 (b := bb) (by omega) (hJ1.1.bn (by omega)).1.1 (hJ1.1.bn (by omega)).1.2 (hJ1.1.bn (by omega)).2.1 (hJ1.1.bn (by omega)).2.2) rfl (by decide) rfl rfl (Nat.le_of_ble_eq_true rfl) (by decide) (by decide) dX6_sounds_16 (fun r5 J4 hJ4 => ?_)
    rw [show r5 = mnt J1 bb from hJ4.1, hJ4.2]
    refine z_ireti B Rt dX6_sounds_19 ?_
    exact Or.inl ⟨c5, hJ1.1, hJ1.2.r, rfl⟩
  · rw [bz_0] at c5
    refine z_iconst B dX6_sounds_8 ?_
    refine z_ireti B Rt dX6_sounds_9 ?_
    exact Or.inr ⟨c5, rfl, rfl⟩

theorem mX6_buttonAt {l : Launch} {G : gx_G} (hG : gx_OK G 91) (J : zJ) {b i : Nat} (hb : b < 8) (hi : i < 3) (hs : (0 ≤ J 82 b ∧ J 82 b ≤ 3) ∧ (0 ≤ J 87 b ∧ J 87 b < 20)) : zMi l G yX6_buttonAt cX6_buttonAt 3 .int rmX6_buttonAt [.ref (gx_ad G 76), .int (zI (b : Int)), .int (zI (i : Int))] J (fun r J' => r = btA J b i ∧ J' = J) := by
  refine gx_mi hG (by decide) (Nat.le_of_ble_eq_true rfl) (fun X hla B Rt => ?_)
  subst hla
  have B : gx_B G X RX6 cX6_buttonAt 3 rmX6_buttonAt 91 := B
  show gx_WG G X 3 (zh J) 0 [(0, .ref (gx_ad G 76)), (1, .int (zI (b : Int))), (2, .int (zI (i : Int)))] []
  refine gx_iload_n B dX6_buttonAt_0 rfl rfl ?_
  refine gx_aload_n B dX6_buttonAt_1 rfl rfl ?_
  refine gx_getr (t := 82) B fl_X6_25 rfl (by decide) rfl dX6_buttonAt_2 ?_
  refine gx_iload_n B dX6_buttonAt_5 rfl rfl ?_
  refine z_iald b B rfl (by decide) rfl hb (by decide) dX6_buttonAt_6 ?_
  refine z_icmp_ge (tgt := 33) B dX6_buttonAt_7 ⟨by omega, by omega⟩ ⟨by omega, by omega⟩ (by decide) (fun c7 => ?_) (fun c7 => ?_)
  · refine z_iconst B dX6_buttonAt_33 ?_
    refine z_ireti B Rt dX6_buttonAt_34 ?_
    refine ⟨?_, rfl⟩
    unfold btA
    first | rw [if_pos (by omega)] | rw [if_neg (by omega)]
  · refine gx_aload_n B dX6_buttonAt_10 rfl rfl ?_
    refine gx_getr (t := 84) B fl_X6_31 rfl (by decide) rfl dX6_buttonAt_11 ?_
    refine z_bipush B dX6_buttonAt_14 (by decide) ?_
    refine gx_iload_n B dX6_buttonAt_16 rfl rfl ?_
    refine z_imul B dX6_buttonAt_17 ?_
    refine z_iconst B dX6_buttonAt_18 ?_
    refine gx_aload_n B dX6_buttonAt_19 rfl rfl ?_
    refine gx_getr (t := 87) B fl_X6_40 rfl (by decide) rfl dX6_buttonAt_20 ?_
    refine gx_iload_n B dX6_buttonAt_23 rfl rfl ?_
    refine z_iald b B rfl (by decide) rfl hb (by decide) dX6_buttonAt_24 ?_
    refine z_imul B dX6_buttonAt_25 ?_
    refine z_iadd B dX6_buttonAt_26 ?_
    refine gx_iload_n B dX6_buttonAt_27 rfl rfl ?_
    refine z_iadd B dX6_buttonAt_28 ?_
    refine z_iald (60 * b + 3 * (J 87 b).toNat + i) B rfl (by decide) (by omega) (show 60 * b + 3 * (J 87 b).toNat + i < 480 by omega) (by decide) dX6_buttonAt_29 ?_
    refine gx_goto (tgt := 34) B dX6_buttonAt_30 (by decide) ?_
    refine z_ireti B Rt dX6_buttonAt_34 ?_
    refine ⟨?_, rfl⟩
    unfold btA
    first | rw [if_pos (by omega)] | rw [if_neg (by omega)]


def uzM (J J' : zJ) (b : Nat) : Int := J 78 (4 * b + 2) * J 77 2 * ones (mnt J' b)
theorem uzM_le {J J' : zJ} {n b : Nat} (h : VM J n) (hb : b < n) : 0 ≤ uzM J J' b ∧ uzM J J' b ≤ 300 := by
  obtain ⟨v1, v2, v3, v4, v5, h5, v7, v8⟩ := h
  have hl := (v7 b hb).2.2.1
  have ho := ones_le (mnt J' b)
  unfold uzM
  have h1 : 0 ≤ J 78 (4 * b + 2) * J 77 2 := Int.mul_nonneg (by omega) (by omega)
  have h2 : J 78 (4 * b + 2) * J 77 2 ≤ 24 := by
    have : J 78 (4 * b + 2) * J 77 2 ≤ 8 * J 77 2 := Int.mul_le_mul_of_nonneg_right hl.2 (by omega)
    omega
  refine ⟨Int.mul_nonneg h1 ho.1, ?_⟩
  have h3 : J 78 (4 * b + 2) * J 77 2 * ones (mnt J' b) ≤ 24 * ones (mnt J' b) := Int.mul_le_mul_of_nonneg_right h2 ho.1
  omega
def UFound (J0 J : zJ) (n : Nat) : Prop := HFound J0 J n ∧ ∀ b, b < n → J 89 b = uzM J0 J b
theorem UFound.cp {J0 J : zJ} {n : Nat} (h : UFound J0 J n) (hM : VM J0 n) (e : RFr J0 J) : CPre J n := by
  have hMJ := hM.keepR e
  obtain ⟨v1, v2, v3, v4, v5, h5, v7, v8, v9, v10, v11⟩ := id hMJ
  refine ⟨h5.1, h5.2, by omega, fun b hb => ⟨?_, (v7 b hb).2.2.2⟩, fun j hj => ?_⟩
  · rw [h.2 b hb]; exact uzM_le hM hb
  · rcases (show j = 0 ∨ j = 1 ∨ j = 2 ∨ j = 3 by omega) with rfl | rfl | rfl | rfl <;> omega
theorem UFound.keep {J0 J J' : zJ} {n : Nat} (h : UFound J0 J n) (e : ∀ x k, ¬ (x = 76 ∧ k = 17) → J' x k = J x k) : UFound J0 J' n := by
  refine ⟨h.1.keep (fun x k q => e x k (by omega)), fun b hb => ?_⟩
  rw [e _ _ (by omega), h.2 b hb]
  unfold uzM
  rw [mnt_congr (e _ _ (by omega)) (fun x k q => e x k (by omega))]

theorem lpUse {G : gx_G} {X : gx_X} (hG : gx_OK G 91) (B : gx_B G X RX6 cX6_findUses 2 rmX6_findUses 91) {n : Nat} {J0 Jq : zJ} (hM : VM J0 n) (hF : HFound J0 Jq n) (hR : RFr J0 Jq) {post : zJ → Prop} (Rt : gx_Rv G X (zpv post)) (hp : ∀ J, (∀ x k, ¬ (x = 89) → J x k = Jq x k) → (∀ b, b < n → J 89 b = uzM J0 Jq b) → post J) : ∀ i : Nat, i ≤ n → ∀ (J : zJ), (∀ x k, ¬ (x = 89) → J x k = Jq x k) → (∀ b, b < i → J 89 b = uzM J0 Jq b) → gx_WG G X 2 (zh J) 6 [(0, .ref (gx_ad G 76)), (1, .int (zI (i : Int)))] [] := by
  refine up_ind (fun i hi ih => ?_)
  intro J hfr hu
  obtain ⟨v1, v2, v3, v4, v5, ⟨h5, h8⟩, v7, v8⟩ := id hM
  have e7 : ∀ k, Jq 77 k = J0 77 k := fun k => hR _ _ (by omega) (by omega)
  have e8 : ∀ k, Jq 78 k = J0 78 k := fun k => hR _ _ (by omega) (by omega)
  have e5 : J 77 5 = (n : Int) := by rw [hfr _ _ (by omega), e7]; exact h5
  have hFJ : HFound J0 J n := hF.keep (fun x k q => hfr x k (by omega))
  refine gx_iload_n B dX6_findUses_6 rfl rfl ?_
  refine gx_aload_n B dX6_findUses_7 rfl rfl ?_
  refine gx_getr (t := 77) B fl_X6_7 rfl (by decide) rfl dX6_findUses_8 ?_
  refine z_iconst B dX6_findUses_11 ?_
  refine z_iald 5 B rfl (by decide) rfl (by decide) (by decide) dX6_findUses_12 ?_
  refine z_icmp_ge (tgt := 54) B dX6_findUses_13 ⟨by omega, by omega⟩ ⟨by omega, by omega⟩ (by decide) (fun c13 => ?_) (fun c13 => ?_)
  · refine z_ret B Rt dX6_findUses_54 ?_
    obtain rfl : i = n := by omega
    exact hp J hfr hu
  · refine gx_aload_n B dX6_findUses_16 rfl rfl ?_
    refine gx_getr (t := 89) B fl_X6_46 rfl (by decide) rfl dX6_findUses_17 ?_
    refine gx_iload_n B dX6_findUses_20 rfl rfl ?_
    refine gx_aload_n B dX6_findUses_21 rfl rfl ?_
    refine gx_getr (t := 78) B fl_X6_13 rfl (by decide) rfl dX6_findUses_22 ?_
    refine z_iconst B dX6_findUses_25 ?_
    refine gx_iload_n B dX6_findUses_26 rfl rfl ?_
    refine z_imul B dX6_findUses_27 ?_
    refine z_iconst B dX6_findUses_28 ?_
    refine z_iadd B dX6_findUses_29 ?_
    refine z_iald (4 * i + 2) B rfl (by decide) (by omega) (show 4 * i + 2 < 32 by omega) (by decide) dX6_findUses_30 ?_
    refine gx_aload_n B dX6_findUses_31 rfl rfl ?_
    refine gx_getr (t := 77) B fl_X6_7 rfl (by decide) rfl dX6_findUses_32 ?_
    refine z_iconst B dX6_findUses_35 ?_
    refine z_iald 2 B rfl (by decide) rfl (by decide) (by decide) dX6_findUses_36 ?_
    refine z_imul B dX6_findUses_37 ?_
    refine gx_aload_n B dX6_findUses_38 rfl rfl ?_
    refine gx_iload_n B dX6_findUses_39 rfl rfl ?_
    refine z_callVi [.int (zI (i : Int))] B lv_X6_127 (mX6_heardAt hG J (b := i) (by omega) (hFJ.bn (by omega)).1.1 (hFJ.bn (by omega)).1.2 (hFJ.bn (by omega)).2.1 (hFJ.bn (by omega)).2.2) rfl (by decide) rfl rfl (Nat.le_of_ble_eq_true rfl) (by decide) (by decide) dX6_findUses_40 (fun r2 J1 hJ1 => ?_)
    rw [show r2 = mnt J i from hJ1.1, hJ1.2]
    refine z_callSi [.int (zI (mnt J i))] B ls_X6_90 (mX6_ones hG J (x := mnt J i)) rfl rfl (Nat.le_of_ble_eq_true rfl) (by decide) (by decide) dX6_findUses_43 (fun r4 J3 hJ3 => ?_)
    rw [show r4 = ones (mnt J i) from hJ3.1, hJ3.2]
    refine z_imul B dX6_findUses_46 ?_
    refine z_iast i B rfl (by decide) rfl (show i < 8 by omega) (by decide) dX6_findUses_47 (fun J1 hJ1 => ?_)
    refine z_iinc (fun v9 => [(0, .ref (gx_ad G 76)), (1, .int (zI v9))]) B dX6_findUses_48 rfl (by decide) rfl (fun _ => rfl) (fun v1 hv1 => ?_)
    rw [show v1 = ((i + 1 : Nat) : Int) from (by omega)]
    refine gx_goto (tgt := 6) B dX6_findUses_51 (by decide) ?_
    refine ih (by omega) J1 (fun x k h => by rw [hJ1, zup_ne (by omega)]; exact hfr x k h) (fun x hx => ?_)
    by_cases e : x = i
    · subst e; rw [hJ1, zup_self]; unfold uzM; rw [hfr _ _ (by omega), hfr _ _ (by omega), e8 _, e7 _]; rw [mnt_congr (J := Jq) (J' := J) (hfr _ _ (by omega)) (fun x k q => hfr x k (by omega))]
    · rw [hJ1, zup_ne (by omega)]; exact hu x (by omega)

theorem mX6_findUses {l : Launch} {G : gx_G} (hG : gx_OK G 91) (J : zJ) {n : Nat} (hM : VM J n)  : zMv l G yX6_findUses cX6_findUses 2 rmX6_findUses [.ref (gx_ad G 76)] J (fun J' => UFound J J' n ∧ RFr J J') := by
  refine gx_mv hG (by decide) (Nat.le_of_ble_eq_true rfl) (fun X hla B Rt => ?_)
  subst hla
  have B : gx_B G X RX6 cX6_findUses 2 rmX6_findUses 91 := B
  show gx_WG G X 2 (zh J) 0 [(0, .ref (gx_ad G 76))] []
  obtain ⟨v1, v2, v3, v4, v5, ⟨h5, h8⟩, v7, v8⟩ := id hM
  refine gx_aload_n B dX6_findUses_0 rfl rfl ?_
  refine z_callVv [] B lv_X6_124 (mX6_findHand hG J hM) rfl (by decide) rfl rfl (Nat.le_of_ble_eq_true rfl) (by decide) (by decide) dX6_findUses_1 (fun Jq hJq => ?_)
  refine z_iconst B dX6_findUses_4 ?_
  refine z_istore_n (fun v9 => [(0, .ref (gx_ad G 76)), (1, .int (zI v9))]) B dX6_findUses_5 rfl (by decide) rfl (fun _ => rfl) (fun v1 hv1 => ?_)
  rw [show v1 = ((0 : Nat) : Int) from (by omega)]
  refine lpUse hG B hM hJq.1 hJq.2.r Rt (fun Jx hfx hux => ⟨⟨hJq.1.keep (fun x k q => hfx x k (by omega)), fun b hb => ?_⟩, fun x k h1 h2 => ?_⟩) 0 (by omega) Jq (fun _ _ _ => rfl) (fun b hb => by omega)
  · rw [hux b hb]; unfold uzM; rw [mnt_congr (hfx _ _ (by omega)) (fun x k q => hfx x k (by omega))]
  · rw [hfx x k (by omega)]; exact hJq.2.r x k h1 h2

theorem mX6_use {l : Launch} {G : gx_G} (hG : gx_OK G 91) (J : zJ) {n : Nat} (hM : VM J n) {b : Int} (hb : zB b) : zMi l G yX6_use cX6_use 2 .int rmX6_use [.ref (gx_ad G 76), .int (zI b)] J (fun r J' => ((0 ≤ b ∧ b < n) ∧ UFound J J' n ∧ RFr J J' ∧ r = J' 89 b.toNat) ∨ (¬ (0 ≤ b ∧ b < n) ∧ r = -1 ∧ J' = J)) := by
  refine gx_mi hG (by decide) (Nat.le_of_ble_eq_true rfl) (fun X hla B Rt => ?_)
  subst hla
  have B : gx_B G X RX6 cX6_use 2 rmX6_use 91 := B
  show gx_WG G X 2 (zh J) 0 [(0, .ref (gx_ad G 76)), (1, .int (zI b))] []
  obtain ⟨v1, v2, v3, v4, v5, ⟨h5, h8⟩, v7, v8⟩ := id hM
  refine gx_aload_n B dX6_use_0 rfl rfl ?_
  refine gx_iload_n B dX6_use_1 rfl rfl ?_
  refine z_callVi [.int (zI b)] B lv_X6_79 (mX6_isBeat hG J hM hb) rfl (by decide) rfl rfl (Nat.le_of_ble_eq_true rfl) (by decide) (by decide) dX6_use_2 (fun r2 J1 hJ1 => ?_)
  rw [show r2 = bz (0 ≤ b ∧ b < n) from hJ1.1, hJ1.2]
  refine z_if_ne (tgt := 10) B dX6_use_5 (bzB _) (by decide) (fun c5 => ?_) (fun c5 => ?_)
  · rw [bz_n0] at c5
    obtain ⟨bb, rfl⟩ : ∃ bb : Nat, b = (bb : Int) := ⟨b.toNat, by omega⟩
    refine gx_aload_n B dX6_use_10 rfl rfl ?_
    refine z_callVv [] B lv_X6_133 (mX6_findUses hG J hM) rfl (by decide) rfl rfl (Nat.le_of_ble_eq_true rfl) (by decide) (by decide) dX6_use_11 (fun J1 hJ1 => ?_)
    refine gx_aload_n B dX6_use_14 rfl rfl ?_
    refine gx_getr (t := 89) B fl_X6_46 rfl (by decide) rfl dX6_use_15 ?_
    refine gx_iload_n B dX6_use_18 rfl rfl ?_
    refine z_iald bb B rfl (by decide) rfl (show bb < 8 by omega) (by decide) dX6_use_19 ?_
    refine z_ireti B Rt dX6_use_20 ?_
    exact Or.inl ⟨c5, hJ1.1, hJ1.2, rfl⟩
  · rw [bz_0] at c5
    refine z_iconst B dX6_use_8 ?_
    refine z_ireti B Rt dX6_use_9 ?_
    exact Or.inr ⟨c5, rfl, rfl⟩


/-- the reference has found its uses and its way -/
def WFound (J0 J : zJ) (n : Nat) (way : Int) : Prop := UFound J0 J n ∧ BestM (csM J n (J0 77 3)) (2 ^ n) way (J 76 17)
abbrev PFr (J J' : zJ) : Prop := ∀ x k, ¬ (x = 76 ∧ k = 17) → J' x k = J x k
theorem WFound.of {J0 J J' : zJ} {n : Nat} {way : Int} (h : UFound J0 J n) (hB : BestM (csM J n (J0 77 3)) (2 ^ n) way (J' 76 17)) (e : PFr J J') : WFound J0 J' n way := ⟨h.keep e, by rw [csM_keep e]; exact hB⟩
theorem RFr.p {J0 J J' : zJ} (h : RFr J0 J) (e : PFr J J') : RFr J0 J' := fun x k h1 h2 => by rw [e x k (by omega)]; exact h x k h1 h2
theorem BestM.way {f : Nat → Int} {n : Nat} {way price : Int} (h8 : n ≤ 8) (h : BestM f (2 ^ n) way price) : -1 ≤ way ∧ way < 256 := by
  have := pow8 h8
  rcases h with ⟨h1, _⟩ | ⟨w, h1, h2, _⟩ <;> omega

theorem mX6_bellows {l : Launch} {G : gx_G} (hG : gx_OK G 91) (J : zJ) {n : Nat} (hM : VM J n) {b : Int} (hb : zB b) : zMi l G yX6_bellows cX6_bellows 3 .int rmX6_bellows [.ref (gx_ad G 76), .int (zI b)] J (fun r J' => ((0 ≤ b ∧ b < n) ∧ RFr J J' ∧ ∃ way, WFound J J' n way ∧ (way = -1 → r = -3) ∧ (¬ way = -1 → r = bz (gz (n : Int) way b = 0))) ∨ (¬ (0 ≤ b ∧ b < n) ∧ r = -1 ∧ J' = J)) := by
  refine gx_mi hG (by decide) (Nat.le_of_ble_eq_true rfl) (fun X hla B Rt => ?_)
  subst hla
  have B : gx_B G X RX6 cX6_bellows 3 rmX6_bellows 91 := B
  show gx_WG G X 3 (zh J) 0 [(0, .ref (gx_ad G 76)), (1, .int (zI b))] []
  obtain ⟨v1, v2, v3, v4, v5, ⟨h5, h8⟩, v7, v8⟩ := id hM
  refine gx_aload_n B dX6_bellows_0 rfl rfl ?_
  refine gx_iload_n B dX6_bellows_1 rfl rfl ?_
  refine z_callVi [.int (zI b)] B lv_X6_79 (mX6_isBeat hG J hM hb) rfl (by decide) rfl rfl (Nat.le_of_ble_eq_true rfl) (by decide) (by decide) dX6_bellows_2 (fun r2 J1 hJ1 => ?_)
  rw [show r2 = bz (0 ≤ b ∧ b < n) from hJ1.1, hJ1.2]
  refine z_if_ne (tgt := 10) B dX6_bellows_5 (bzB _) (by decide) (fun c5 => ?_) (fun c5 => ?_)
  · rw [bz_n0] at c5
    obtain ⟨bb, rfl⟩ : ∃ bb : Nat, b = (bb : Int) := ⟨b.toNat, by omega⟩
    refine gx_aload_n B dX6_bellows_10 rfl rfl ?_
    refine z_callVv [] B lv_X6_133 (mX6_findUses hG J hM) rfl (by decide) rfl rfl (Nat.le_of_ble_eq_true rfl) (by decide) (by decide) dX6_bellows_11 (fun J1 hJ1 => ?_)
    refine gx_aload_n B dX6_bellows_14 rfl rfl ?_
    refine gx_aload_n B dX6_bellows_15 rfl rfl ?_
    refine gx_getr (t := 77) B fl_X6_7 rfl (by decide) rfl dX6_bellows_16 ?_
    refine z_iconst B dX6_bellows_19 ?_
    refine z_iald 3 B rfl (by decide) rfl (by decide) (by decide) dX6_bellows_20 ?_
    rw [show J1 77 3 = J 77 3 from (hJ1.2 _ _ (by omega) (by omega))]
    refine z_callVi [.int (zI (J 77 3))] B lv_X6_142 (mX6_findWay hG J1 (n := n) (room := J 77 3) (hJ1.1.cp hM hJ1.2) (by omega) (by omega)) rfl (by decide) rfl rfl (Nat.le_of_ble_eq_true rfl) (by decide) (by decide) dX6_bellows_21 (fun way J2 hJ2 => ?_)
    have hww := BestM.way h8 hJ2.1
    have hW := WFound.of hJ1.1 hJ2.1 hJ2.2
    have hR2 := RFr.p hJ1.2 hJ2.2
    have e5 : J2 77 5 = (n : Int) := by rw [hR2 _ _ (by omega) (by omega)]; exact h5
    refine z_istore_n (fun v9 => [(0, .ref (gx_ad G 76)), (1, .int (zI (bb : Int))), (2, .int (zI v9))]) B dX6_bellows_24 rfl (by decide) rfl (fun _ => rfl) (fun v9 hv9 => ?_)
    rw [hv9]
    refine gx_iload_n B dX6_bellows_25 rfl rfl ?_
    refine z_if_ge (tgt := 34) B dX6_bellows_26 ⟨by omega, by omega⟩ (by decide) (fun c26 => ?_) (fun c26 => ?_)
    · refine gx_aload_n B dX6_bellows_34 rfl rfl ?_
      refine gx_iload_n B dX6_bellows_35 rfl rfl ?_
      refine gx_iload_n B dX6_bellows_36 rfl rfl ?_
      refine z_callVi [.int (zI way), .int (zI (bb : Int))] B lv_X6_145 (mX6_goesOut hG J2 (t := way) (b := (bb : Int))) rfl (by decide) rfl rfl (Nat.le_of_ble_eq_true rfl) (by decide) (by decide) dX6_bellows_37 (fun r5 J4 hJ4 => ?_)
      rw [show r5 = bz (gz (J2 77 5) way (bb : Int) = 0) from hJ4.1, hJ4.2]
      refine z_if_eq (tgt := 47) B dX6_bellows_40 (bzB _) (by decide) (fun c40 => ?_) (fun c40 => ?_)
      · refine z_iconst B dX6_bellows_47 ?_
        refine z_ireti B Rt dX6_bellows_48 ?_
        refine Or.inl ⟨c5, hR2, way, hW, fun q => by first | rfl | omega, fun q => ?_⟩
        first
        | (exfalso; omega)
        | (rw [e5] at c40; first | (rw [bz_0] at c40; exact (bz_0.mpr c40).symm) | (rw [bz_n0] at c40; exact (bz_1.mpr c40).symm))
      · refine z_iconst B dX6_bellows_43 ?_
        refine gx_goto (tgt := 48) B dX6_bellows_44 (by decide) ?_
        refine z_ireti B Rt dX6_bellows_48 ?_
        refine Or.inl ⟨c5, hR2, way, hW, fun q => by first | rfl | omega, fun q => ?_⟩
        first
        | (exfalso; omega)
        | (rw [e5] at c40; first | (rw [bz_0] at c40; exact (bz_0.mpr c40).symm) | (rw [bz_n0] at c40; exact (bz_1.mpr c40).symm))
    · refine z_bipush B dX6_bellows_29 (by decide) ?_
      refine gx_goto (tgt := 48) B dX6_bellows_31 (by decide) ?_
      refine z_ireti B Rt dX6_bellows_48 ?_
      refine Or.inl ⟨c5, hR2, way, hW, fun q => by first | rfl | omega, fun q => ?_⟩
      first
      | (exfalso; omega)
      | (rw [e5] at c40; first | (rw [bz_0] at c40; exact (bz_0.mpr c40).symm) | (rw [bz_n0] at c40; exact (bz_1.mpr c40).symm))
  · rw [bz_0] at c5
    refine z_iconst B dX6_bellows_8 ?_
    refine z_ireti B Rt dX6_bellows_9 ?_
    exact Or.inr ⟨c5, rfl, rfl⟩

theorem lpAirM {G : gx_G} {X : gx_X} (hG : gx_OK G 91) (B : gx_B G X RX6 cX6_air 5 rmX6_air 91) {n b : Nat} {J : zJ} {way st : Int} (h5 : J 77 5 = (n : Int)) (h8 : n ≤ 8) (hb : b < n) {post : Int → zJ → Prop} (Rt : gx_Ri G X .int (zpi post)) (hp : post (airN (n : Int) way (J 89) st (b + 1)) J) : ∀ i : Nat, i ≤ (b + 1) → gx_WG G X 5 (zh J) 42 [(0, .ref (gx_ad G 76)), (1, .int (zI (b : Int))), (2, .int (zI way)), (3, .int (zI (airN (n : Int) way (J 89) st i))), (4, .int (zI (i : Int)))] [] := by
  refine up_ind (fun i hi ih => ?_)
  refine gx_iload B dX6_air_42 rfl ?_
  refine gx_iload_n B dX6_air_44 rfl rfl ?_
  refine z_icmp_gt (tgt := 85) B dX6_air_45 ⟨by omega, by omega⟩ ⟨by omega, by omega⟩ (by decide) (fun c45 => ?_) (fun c45 => ?_)
  · refine gx_iload_n B dX6_air_85 rfl rfl ?_
    refine z_ireti B Rt dX6_air_86 ?_
    obtain rfl : i = b + 1 := by omega
    exact hp
  · refine gx_iload_n B dX6_air_48 rfl rfl ?_
    refine gx_aload_n B dX6_air_49 rfl rfl ?_
    refine gx_iload_n B dX6_air_50 rfl rfl ?_
    refine gx_iload B dX6_air_51 rfl ?_
    refine z_callVi [.int (zI way), .int (zI (i : Int))] B lv_X6_145 (mX6_goesOut hG J (t := way) (b := (i : Int))) rfl (by decide) rfl rfl (Nat.le_of_ble_eq_true rfl) (by decide) (by decide) dX6_air_53 (fun r2 J1 hJ1 => ?_)
    rw [show r2 = bz (gz (J 77 5) way (i : Int) = 0) from hJ1.1, hJ1.2]
    refine z_if_eq (tgt := 69) B dX6_air_56 (bzB _) (by decide) (fun c56 => ?_) (fun c56 => ?_)
    · rw [h5, bz_0] at c56
      refine gx_aload_n B dX6_air_69 rfl rfl ?_
      refine gx_getr (t := 89) B fl_X6_46 rfl (by decide) rfl dX6_air_70 ?_
      refine gx_iload B dX6_air_73 rfl ?_
      refine z_iald i B rfl (by decide) rfl (show i < 8 by omega) (by decide) dX6_air_75 ?_
      refine z_ineg B dX6_air_76 ?_
      refine z_iadd B dX6_air_77 ?_
      refine z_istore_n (fun v9 => [(0, .ref (gx_ad G 76)), (1, .int (zI (b : Int))), (2, .int (zI way)), (3, .int (zI v9)), (4, .int (zI (i : Int)))]) B dX6_air_78 rfl (by decide) rfl (fun _ => rfl) (fun v3 hv3 => ?_)
      rw [show v3 = airN (n : Int) way (J 89) st (i + 1) from (by rw [hv3]; show _ = airN (n : Int) way (J 89) st i + mvZ (n : Int) way (J 89) i; unfold mvZ; first | rw [if_pos c56] | rw [if_neg c56])]
      refine z_iinc (fun v9 => [(0, .ref (gx_ad G 76)), (1, .int (zI (b : Int))), (2, .int (zI way)), (3, .int (zI (airN (n : Int) way (J 89) st (i + 1)))), (4, .int (zI v9))]) B dX6_air_79 rfl (by decide) rfl (fun _ => rfl) (fun v4 hv4 => ?_)
      rw [show v4 = ((i + 1 : Nat) : Int) from (by omega)]
      refine gx_goto (tgt := 42) B dX6_air_82 (by decide) ?_
      exact ih (by omega)
    · rw [h5, bz_n0] at c56
      refine gx_aload_n B dX6_air_59 rfl rfl ?_
      refine gx_getr (t := 89) B fl_X6_46 rfl (by decide) rfl dX6_air_60 ?_
      refine gx_iload B dX6_air_63 rfl ?_
      refine z_iald i B rfl (by decide) rfl (show i < 8 by omega) (by decide) dX6_air_65 ?_
      refine gx_goto (tgt := 77) B dX6_air_66 (by decide) ?_
      refine z_iadd B dX6_air_77 ?_
      refine z_istore_n (fun v9 => [(0, .ref (gx_ad G 76)), (1, .int (zI (b : Int))), (2, .int (zI way)), (3, .int (zI v9)), (4, .int (zI (i : Int)))]) B dX6_air_78 rfl (by decide) rfl (fun _ => rfl) (fun v3 hv3 => ?_)
      rw [show v3 = airN (n : Int) way (J 89) st (i + 1) from (by rw [hv3]; show _ = airN (n : Int) way (J 89) st i + mvZ (n : Int) way (J 89) i; unfold mvZ; first | rw [if_pos c56] | rw [if_neg c56])]
      refine z_iinc (fun v9 => [(0, .ref (gx_ad G 76)), (1, .int (zI (b : Int))), (2, .int (zI way)), (3, .int (zI (airN (n : Int) way (J 89) st (i + 1)))), (4, .int (zI v9))]) B dX6_air_79 rfl (by decide) rfl (fun _ => rfl) (fun v4 hv4 => ?_)
      rw [show v4 = ((i + 1 : Nat) : Int) from (by omega)]
      refine gx_goto (tgt := 42) B dX6_air_82 (by decide) ?_
      exact ih (by omega)

theorem mX6_air {l : Launch} {G : gx_G} (hG : gx_OK G 91) (J : zJ) {n : Nat} (hM : VM J n) {b : Int} (hb : zB b) : zMi l G yX6_air cX6_air 5 .int rmX6_air [.ref (gx_ad G 76), .int (zI b)] J (fun r J' => ((0 ≤ b ∧ b < n) ∧ RFr J J' ∧ ∃ way, WFound J J' n way ∧ (way = -1 → r = -3) ∧ (¬ way = -1 → r = airN (n : Int) way (J' 89) (J 77 4) (b.toNat + 1))) ∨ (¬ (0 ≤ b ∧ b < n) ∧ r = -1 ∧ J' = J)) := by
  refine gx_mi hG (by decide) (Nat.le_of_ble_eq_true rfl) (fun X hla B Rt => ?_)
  subst hla
  have B : gx_B G X RX6 cX6_air 5 rmX6_air 91 := B
  show gx_WG G X 5 (zh J) 0 [(0, .ref (gx_ad G 76)), (1, .int (zI b))] []
  obtain ⟨v1, v2, v3, v4, v5, ⟨h5, h8⟩, v7, v8⟩ := id hM
  refine gx_aload_n B dX6_air_0 rfl rfl ?_
  refine gx_iload_n B dX6_air_1 rfl rfl ?_
  refine z_callVi [.int (zI b)] B lv_X6_79 (mX6_isBeat hG J hM hb) rfl (by decide) rfl rfl (Nat.le_of_ble_eq_true rfl) (by decide) (by decide) dX6_air_2 (fun r2 J1 hJ1 => ?_)
  rw [show r2 = bz (0 ≤ b ∧ b < n) from hJ1.1, hJ1.2]
  refine z_if_ne (tgt := 10) B dX6_air_5 (bzB _) (by decide) (fun c5 => ?_) (fun c5 => ?_)
  · rw [bz_n0] at c5
    obtain ⟨bb, rfl⟩ : ∃ bb : Nat, b = (bb : Int) := ⟨b.toNat, by omega⟩
    refine gx_aload_n B dX6_air_10 rfl rfl ?_
    refine z_callVv [] B lv_X6_133 (mX6_findUses hG J hM) rfl (by decide) rfl rfl (Nat.le_of_ble_eq_true rfl) (by decide) (by decide) dX6_air_11 (fun J1 hJ1 => ?_)
    refine gx_aload_n B dX6_air_14 rfl rfl ?_
    refine gx_aload_n B dX6_air_15 rfl rfl ?_
    refine gx_getr (t := 77) B fl_X6_7 rfl (by decide) rfl dX6_air_16 ?_
    refine z_iconst B dX6_air_19 ?_
    refine z_iald 3 B rfl (by decide) rfl (by decide) (by decide) dX6_air_20 ?_
    rw [show J1 77 3 = J 77 3 from (hJ1.2 _ _ (by omega) (by omega))]
    refine z_callVi [.int (zI (J 77 3))] B lv_X6_142 (mX6_findWay hG J1 (n := n) (room := J 77 3) (hJ1.1.cp hM hJ1.2) (by omega) (by omega)) rfl (by decide) rfl rfl (Nat.le_of_ble_eq_true rfl) (by decide) (by decide) dX6_air_21 (fun way J2 hJ2 => ?_)
    have hww := BestM.way h8 hJ2.1
    have hW := WFound.of hJ1.1 hJ2.1 hJ2.2
    have hR2 := RFr.p hJ1.2 hJ2.2
    have e5 : J2 77 5 = (n : Int) := by rw [hR2 _ _ (by omega) (by omega)]; exact h5
    refine z_istore_n (fun v9 => [(0, .ref (gx_ad G 76)), (1, .int (zI (bb : Int))), (2, .int (zI v9))]) B dX6_air_24 rfl (by decide) rfl (fun _ => rfl) (fun v9 hv9 => ?_)
    rw [hv9]
    refine gx_iload_n B dX6_air_25 rfl rfl ?_
    refine z_if_ge (tgt := 32) B dX6_air_26 ⟨by omega, by omega⟩ (by decide) (fun c26 => ?_) (fun c26 => ?_)
    · refine gx_aload_n B dX6_air_32 rfl rfl ?_
      refine gx_getr (t := 77) B fl_X6_7 rfl (by decide) rfl dX6_air_33 ?_
      refine z_iconst B dX6_air_36 ?_
      refine z_iald 4 B rfl (by decide) rfl (by decide) (by decide) dX6_air_37 ?_
      rw [show J2 77 4 = J 77 4 from (hR2 _ _ (by omega) (by omega))]
      refine z_istore_n (fun v9 => [(0, .ref (gx_ad G 76)), (1, .int (zI (bb : Int))), (2, .int (zI way)), (3, .int (zI v9))]) B dX6_air_38 rfl (by decide) rfl (fun _ => rfl) (fun v3 hv3 => ?_)
      rw [show v3 = airN (n : Int) way (J2 89) (J 77 4) 0 from (by rw [hv3]; rfl)]
      refine z_iconst B dX6_air_39 ?_
      refine z_istore (fun v9 => [(0, .ref (gx_ad G 76)), (1, .int (zI (bb : Int))), (2, .int (zI way)), (3, .int (zI (airN (n : Int) way (J2 89) (J 77 4) 0))), (4, .int (zI v9))]) B dX6_air_40 (by decide) rfl (fun _ => rfl) (fun v4 hv4 => ?_)
      rw [show v4 = ((0 : Nat) : Int) from (by omega)]
      exact lpAirM hG B e5 h8 (by omega) Rt (Or.inl ⟨c5, hR2, way, hW, fun q => by omega, fun q => by rw [Int.toNat_natCast]⟩) 0 (by omega)
    · refine z_bipush B dX6_air_29 (by decide) ?_
      refine z_ireti B Rt dX6_air_31 ?_
      exact Or.inl ⟨c5, hR2, way, hW, fun q => rfl, fun q => by omega⟩
  · rw [bz_0] at c5
    refine z_iconst B dX6_air_8 ?_
    refine z_ireti B Rt dX6_air_9 ?_
    exact Or.inr ⟨c5, rfl, rfl⟩

theorem mX6_cost {l : Launch} {G : gx_G} (hG : gx_OK G 91) (J : zJ) {n : Nat} (hM : VM J n)  : zMi l G yX6_cost cX6_cost 1 .int rmX6_cost [.ref (gx_ad G 76)] J (fun r J' => RFr J J' ∧ ∃ way, WFound J J' n way ∧ (way = -1 → r = -3) ∧ (¬ way = -1 → r = J' 76 17)) := by
  refine gx_mi hG (by decide) (Nat.le_of_ble_eq_true rfl) (fun X hla B Rt => ?_)
  subst hla
  have B : gx_B G X RX6 cX6_cost 1 rmX6_cost 91 := B
  show gx_WG G X 1 (zh J) 0 [(0, .ref (gx_ad G 76))] []
  obtain ⟨v1, v2, v3, v4, v5, ⟨h5, h8⟩, v7, v8⟩ := id hM
  refine gx_aload_n B dX6_cost_0 rfl rfl ?_
  refine z_callVv [] B lv_X6_133 (mX6_findUses hG J hM) rfl (by decide) rfl rfl (Nat.le_of_ble_eq_true rfl) (by decide) (by decide) dX6_cost_1 (fun J1 hJ1 => ?_)
  refine gx_aload_n B dX6_cost_4 rfl rfl ?_
  refine gx_aload_n B dX6_cost_5 rfl rfl ?_
  refine gx_getr (t := 77) B fl_X6_7 rfl (by decide) rfl dX6_cost_6 ?_
  refine z_iconst B dX6_cost_9 ?_
  refine z_iald 3 B rfl (by decide) rfl (by decide) (by decide) dX6_cost_10 ?_
  rw [show J1 77 3 = J 77 3 from (hJ1.2 _ _ (by omega) (by omega))]
  refine z_callVi [.int (zI (J 77 3))] B lv_X6_142 (mX6_findWay hG J1 (n := n) (room := J 77 3) (hJ1.1.cp hM hJ1.2) (by omega) (by omega)) rfl (by decide) rfl rfl (Nat.le_of_ble_eq_true rfl) (by decide) (by decide) dX6_cost_11 (fun way J2 hJ2 => ?_)
  have hww := BestM.way h8 hJ2.1
  have hW := WFound.of hJ1.1 hJ2.1 hJ2.2
  have hR2 := RFr.p hJ1.2 hJ2.2
  have e5 : J2 77 5 = (n : Int) := by rw [hR2 _ _ (by omega) (by omega)]; exact h5
  refine z_if_ge (tgt := 22) B dX6_cost_14 ⟨by omega, by omega⟩ (by decide) (fun c14 => ?_) (fun c14 => ?_)
  · refine gx_aload_n B dX6_cost_22 rfl rfl ?_
    refine z_geti B fl_X6_136 rfl (by decide) rfl dX6_cost_23 ?_
    refine z_ireti B Rt dX6_cost_26 ?_
    exact ⟨hR2, way, hW, fun q => by first | rfl | omega, fun q => by first | rfl | omega⟩
  · refine z_bipush B dX6_cost_17 (by decide) ?_
    refine gx_goto (tgt := 26) B dX6_cost_19 (by decide) ?_
    refine z_ireti B Rt dX6_cost_26 ?_
    exact ⟨hR2, way, hW, fun q => by first | rfl | omega, fun q => by first | rfl | omega⟩

theorem lpWant {G : gx_G} {X : gx_X} (hG : gx_OK G 91) (B : gx_B G X RX6 cX6_wants 2 rmX6_wants 91) {n : Nat} {J Jq : zJ} (hM : VM J n) (hU : UFound J Jq n) (hR : RFr J Jq) (Rt : gx_Ri G X .int (zpi (fun r J' => RFr J J' ∧ UFound J J' n ∧ ((1 ≤ r ∧ r ≤ 400 ∧ max (J 77 4) 1 ≤ r ∧ (∃ t, t < 2 ^ n ∧ csM J' n r t < 1000) ∧ ∀ m : Int, max (J 77 4) 1 ≤ m → m < r → ∀ t, t < 2 ^ n → 1000 ≤ csM J' n m t) ∨ (r = -3 ∧ ∀ m : Int, max (J 77 4) 1 ≤ m → m < 401 → ∀ t, t < 2 ^ n → 1000 ≤ csM J' n m t))))) : ∀ i : Nat, i ≤ 401 → ∀ (Jw : zJ), PFr Jq Jw → max (J 77 4) 1 ≤ (i : Int) → (∀ m : Int, max (J 77 4) 1 ≤ m → m < (i : Int) → ∀ t, t < 2 ^ n → 1000 ≤ csM Jq n m t) → gx_WG G X 2 (zh Jw) 25 [(0, .ref (gx_ad G 76)), (1, .int (zI (i : Int)))] [] := by
  refine up_ind (fun i hi ih => ?_)
  intro Jw hfr hlo hn
  obtain ⟨v1, v2, v3, v4, v5, ⟨h5, h8⟩, v7, v8⟩ := id hM
  refine gx_iload_n B dX6_wants_25 rfl rfl ?_
  refine z_sipush B dX6_wants_26 (by decide) ?_
  refine z_icmp_gt (tgt := 48) B dX6_wants_29 ⟨by omega, by omega⟩ ⟨by omega, by omega⟩ (by decide) (fun c29 => ?_) (fun c29 => ?_)
  · refine z_bipush B dX6_wants_48 (by decide) ?_
    refine z_ireti B Rt dX6_wants_50 ?_
    exact ⟨hR.p hfr, hU.keep hfr, Or.inr ⟨rfl, fun m h1 h2 t ht => by rw [csM_keep hfr]; exact hn m h1 (by omega) t ht⟩⟩
  · refine gx_aload_n B dX6_wants_32 rfl rfl ?_
    refine gx_iload_n B dX6_wants_33 rfl rfl ?_
    refine z_callVi [.int (zI (i : Int))] B lv_X6_142 (mX6_findWay hG Jw (n := n) (room := (i : Int)) ((hU.cp hM hR).keep hfr) (by omega) (by omega)) rfl (by decide) rfl rfl (Nat.le_of_ble_eq_true rfl) (by decide) (by decide) dX6_wants_34 (fun way J2 hJ2 => ?_)
    have hww := BestM.way h8 hJ2.1
    refine z_if_lt (tgt := 42) B dX6_wants_37 ⟨by omega, by omega⟩ (by decide) (fun c37 => ?_) (fun c37 => ?_)
    · refine z_iinc (fun v9 => [(0, .ref (gx_ad G 76)), (1, .int (zI v9))]) B dX6_wants_42 rfl (by decide) rfl (fun _ => rfl) (fun v1 hv1 => ?_)
      rw [show v1 = ((i + 1 : Nat) : Int) from (by omega)]
      refine gx_goto (tgt := 25) B dX6_wants_45 (by decide) ?_
      refine ih (by omega) J2 (fun x k h => by rw [hJ2.2 x k h]; exact hfr x k h) (by omega) (fun m h1 h2 t ht => ?_)
      by_cases e : m = (i : Int)
      · subst e
        rw [csM_keep hfr] at hJ2
        rcases hJ2.1 with ⟨_, _, q⟩ | ⟨x, q1, _⟩
        · exact q t ht
        · omega
      · exact hn m h1 (by omega) t ht
    · refine gx_iload_n B dX6_wants_40 rfl rfl ?_
      refine z_ireti B Rt dX6_wants_41 ?_
      have hfr2 : PFr Jq J2 := fun x k h => by rw [hJ2.2 x k h]; exact hfr x k h
      refine ⟨hR.p hfr2, hU.keep hfr2, Or.inl ⟨by omega, by omega, hlo, ?_, fun m h1 h2 t ht => by rw [csM_keep hfr2]; exact hn m h1 h2 t ht⟩⟩
      rw [csM_keep hJ2.2]
      rcases hJ2.1 with ⟨q1, _⟩ | ⟨x, _, q2, _, q4, _⟩
      · omega
      · exact ⟨x, q2, q4⟩

theorem mX6_wants {l : Launch} {G : gx_G} (hG : gx_OK G 91) (J : zJ) {n : Nat} (hM : VM J n)  : zMi l G yX6_wants cX6_wants 2 .int rmX6_wants [.ref (gx_ad G 76)] J (fun r J' => RFr J J' ∧ UFound J J' n ∧ ((1 ≤ r ∧ r ≤ 400 ∧ max (J 77 4) 1 ≤ r ∧ (∃ t, t < 2 ^ n ∧ csM J' n r t < 1000) ∧ ∀ m : Int, max (J 77 4) 1 ≤ m → m < r → ∀ t, t < 2 ^ n → 1000 ≤ csM J' n m t) ∨ (r = -3 ∧ ∀ m : Int, max (J 77 4) 1 ≤ m → m < 401 → ∀ t, t < 2 ^ n → 1000 ≤ csM J' n m t))) := by
  refine gx_mi hG (by decide) (Nat.le_of_ble_eq_true rfl) (fun X hla B Rt => ?_)
  subst hla
  have B : gx_B G X RX6 cX6_wants 2 rmX6_wants 91 := B
  show gx_WG G X 2 (zh J) 0 [(0, .ref (gx_ad G 76))] []
  obtain ⟨v1, v2, v3, v4, v5, ⟨h5, h8⟩, v7, v8⟩ := id hM
  refine gx_aload_n B dX6_wants_0 rfl rfl ?_
  refine z_callVv [] B lv_X6_133 (mX6_findUses hG J hM) rfl (by decide) rfl rfl (Nat.le_of_ble_eq_true rfl) (by decide) (by decide) dX6_wants_1 (fun J1 hJ1 => ?_)
  have e4 : J1 77 4 = J 77 4 := hJ1.2 _ _ (by omega) (by omega)
  obtain ⟨lo, hlo⟩ : ∃ lo : Nat, (lo : Int) = max (J 77 4) 1 := ⟨(max (J 77 4) 1).toNat, by omega⟩
  refine gx_aload_n B dX6_wants_4 rfl rfl ?_
  refine gx_getr (t := 77) B fl_X6_7 rfl (by decide) rfl dX6_wants_5 ?_
  refine z_iconst B dX6_wants_8 ?_
  refine z_iald 4 B rfl (by decide) rfl (by decide) (by decide) dX6_wants_9 ?_
  rw [show J1 77 4 = J 77 4 from e4]
  refine z_iconst B dX6_wants_10 ?_
  refine z_icmp_le (tgt := 23) B dX6_wants_11 ⟨by omega, by omega⟩ ⟨by omega, by omega⟩ (by decide) (fun c11 => ?_) (fun c11 => ?_)
  · refine z_iconst B dX6_wants_23 ?_
    refine z_istore_n (fun v9 => [(0, .ref (gx_ad G 76)), (1, .int (zI v9))]) B dX6_wants_24 rfl (by decide) rfl (fun _ => rfl) (fun v1 hv1 => ?_)
    rw [show v1 = (lo : Int) from (by omega)]
    exact lpWant hG B hM hJ1.1 hJ1.2 Rt lo (by omega) J1 (fun _ _ _ => rfl) (by omega) (fun m h1 h2 => by omega)
  · refine gx_aload_n B dX6_wants_14 rfl rfl ?_
    refine gx_getr (t := 77) B fl_X6_7 rfl (by decide) rfl dX6_wants_15 ?_
    refine z_iconst B dX6_wants_18 ?_
    refine z_iald 4 B rfl (by decide) rfl (by decide) (by decide) dX6_wants_19 ?_
    rw [show J1 77 4 = J 77 4 from e4]
    refine gx_goto (tgt := 24) B dX6_wants_20 (by decide) ?_
    refine z_istore_n (fun v9 => [(0, .ref (gx_ad G 76)), (1, .int (zI v9))]) B dX6_wants_24 rfl (by decide) rfl (fun _ => rfl) (fun v1 hv1 => ?_)
    rw [show v1 = (lo : Int) from (by omega)]
    exact lpWant hG B hM hJ1.1 hJ1.2 Rt lo (by omega) J1 (fun _ _ _ => rfl) (by omega) (fun m h1 h2 => by omega)


def GVal (J0 : zJ) (w : Int) (b : Nat) (v : Int) : Prop := ∃ J1, MGood J0 J1 b ∧ (w = 0 → v = J1 80 b) ∧ (w = 1 → v = J1 81 b) ∧ (w = 2 → v = J1 82 b)
theorem sumN_congr {f g : Nat → Int} : ∀ {n : Nat}, (∀ k, k < n → f k = g k) → sumN f n = sumN g n
  | 0, _ => rfl
  | n + 1, h => by
    show sumN f n + f n = sumN g n + g n
    rw [sumN_congr (fun k hk => h k (by omega)), h n (by omega)]
theorem QFr.rr {J0 J J' : zJ} {b : Nat} (h : RFr J0 J) (e : QFr J J' b) : RFr J0 J' := fun x k h1 h2 => by rw [e x k (by omega) (by omega) (by omega) (by omega)]; exact h x k h1 h2
theorem MGood.numR {J0 J J' : zJ} {b : Nat} (e : RFr J0 J) (h : MGood J J' b) : MGood J0 J' b := by
  unfold MGood at h ⊢
  rw [e 77 0 (by omega) (by omega), e 77 1 (by omega) (by omega), e 78 (4 * b) (by omega) (by omega), e 78 (4 * b + 1) (by omega) (by omega)] at h
  exact h

theorem lpSum {G : gx_G} {X : gx_X} (hG : gx_OK G 91) (B : gx_B G X RX6 cX6_sum 4 rmX6_sum 91) {n : Nat} {J : zJ} {w : Int} (hM : VM J n) (hw : 0 ≤ w ∧ w ≤ 2) (Rt : gx_Ri G X .int (zpi (fun r J' => RFr J J' ∧ ∃ g : Nat → Int, (∀ b, b < n → GVal J w b (g b)) ∧ r = sumN g n))) : ∀ i : Nat, i ≤ n → ∀ (Jw : zJ) (g : Nat → Int), RFr J Jw → (∀ b, b < i → GVal J w b (g b)) → gx_WG G X 4 (zh Jw) 4 [(0, .ref (gx_ad G 76)), (1, .int (zI w)), (2, .int (zI (sumN g i))), (3, .int (zI (i : Int)))] [] := by
  refine up_ind (fun i hi ih => ?_)
  intro Jw g hR hg
  have hMw := hM.keepR hR
  obtain ⟨v1, v2, v3, v4, v5, ⟨h5, h8⟩, v7, v8⟩ := id hMw
  refine gx_iload_n B dX6_sum_4 rfl rfl ?_
  refine gx_aload_n B dX6_sum_5 rfl rfl ?_
  refine gx_getr (t := 77) B fl_X6_7 rfl (by decide) rfl dX6_sum_6 ?_
  refine z_iconst B dX6_sum_9 ?_
  refine z_iald 5 B rfl (by decide) rfl (by decide) (by decide) dX6_sum_10 ?_
  refine z_icmp_ge (tgt := 29) B dX6_sum_11 ⟨by omega, by omega⟩ ⟨by omega, by omega⟩ (by decide) (fun c11 => ?_) (fun c11 => ?_)
  · refine gx_iload_n B dX6_sum_29 rfl rfl ?_
    refine z_ireti B Rt dX6_sum_30 ?_
    obtain rfl : i = n := by omega
    exact ⟨hR, g, hg, rfl⟩
  · refine gx_iload_n B dX6_sum_14 rfl rfl ?_
    refine gx_aload_n B dX6_sum_15 rfl rfl ?_
    refine gx_iload_n B dX6_sum_16 rfl rfl ?_
    refine gx_iload_n B dX6_sum_17 rfl rfl ?_
    refine z_callVi [.int (zI (i : Int)), .int (zI w)] B lv_X6_148 (mX6_good hG Jw hMw (b := (i : Int)) (w := w) ⟨by omega, by omega⟩ ⟨by omega, by omega⟩) rfl (by decide) rfl rfl (Nat.le_of_ble_eq_true rfl) (by decide) (by decide) dX6_sum_18 (fun r2 J2 hJ2 => ?_)
    have hG2 : GVal J w i r2 ∧ RFr J J2 := by
      rcases hJ2 with ⟨_, q1, q2, q3, q4, q5, q6⟩ | ⟨q, _⟩
      · rw [Int.toNat_natCast] at q1 q2 q3 q4 q5
        exact ⟨⟨J2, q1.numR hR, q3, q4, q5⟩, QFr.rr hR q2⟩
      · exact absurd ⟨⟨by omega, by omega⟩, by omega⟩ q
    refine z_iadd B dX6_sum_21 ?_
    refine z_istore_n (fun v9 => [(0, .ref (gx_ad G 76)), (1, .int (zI w)), (2, .int (zI v9)), (3, .int (zI (i : Int)))]) B dX6_sum_22 rfl (by decide) rfl (fun _ => rfl) (fun v2 hv2 => ?_)
    rw [show v2 = sumN (fun x => if x < i then g x else r2) (i + 1) from (by rw [hv2]; show _ = sumN (fun x => if x < i then g x else r2) i + (fun x => if x < i then g x else r2) i; rw [sumN_congr (f := fun x => if x < i then g x else r2) (g := g) (fun k hk => if_pos hk)]; show _ = _ + (if i < i then g i else r2); rw [if_neg (by omega)])]
    refine z_iinc (fun v9 => [(0, .ref (gx_ad G 76)), (1, .int (zI w)), (2, .int (zI (sumN (fun x => if x < i then g x else r2) (i + 1)))), (3, .int (zI v9))]) B dX6_sum_23 rfl (by decide) rfl (fun _ => rfl) (fun v3 hv3 => ?_)
    rw [show v3 = ((i + 1 : Nat) : Int) from (by omega)]
    refine gx_goto (tgt := 4) B dX6_sum_26 (by decide) ?_
    refine ih (by omega) J2 _ hG2.2 (fun b hb => ?_)
    show GVal J w b (if b < i then g b else r2)
    by_cases e : b = i
    · subst e; rw [if_neg (by omega)]; exact hG2.1
    · rw [if_pos (by omega)]; exact hg b (by omega)

theorem mX6_sum {l : Launch} {G : gx_G} (hG : gx_OK G 91) (J : zJ) {n : Nat} (hM : VM J n) {w : Int} (hw : 0 ≤ w ∧ w ≤ 2) : zMi l G yX6_sum cX6_sum 4 .int rmX6_sum [.ref (gx_ad G 76), .int (zI w)] J (fun r J' => RFr J J' ∧ ∃ g : Nat → Int, (∀ b, b < n → GVal J w b (g b)) ∧ r = sumN g n) := by
  refine gx_mi hG (by decide) (Nat.le_of_ble_eq_true rfl) (fun X hla B Rt => ?_)
  subst hla
  have B : gx_B G X RX6 cX6_sum 4 rmX6_sum 91 := B
  show gx_WG G X 4 (zh J) 0 [(0, .ref (gx_ad G 76)), (1, .int (zI w))] []
  obtain ⟨v1, v2, v3, v4, v5, ⟨h5, h8⟩, v7, v8⟩ := id hM
  refine z_iconst B dX6_sum_0 ?_
  refine z_istore_n (fun v9 => [(0, .ref (gx_ad G 76)), (1, .int (zI w)), (2, .int (zI v9))]) B dX6_sum_1 rfl (by decide) rfl (fun _ => rfl) (fun v2 hv2 => ?_)
  rw [show v2 = sumN (fun _ => 0) 0 from (by rw [hv2]; rfl)]
  refine z_iconst B dX6_sum_2 ?_
  refine z_istore_n (fun v9 => [(0, .ref (gx_ad G 76)), (1, .int (zI w)), (2, .int (zI (sumN (fun _ => 0) 0))), (3, .int (zI v9))]) B dX6_sum_3 rfl (by decide) rfl (fun _ => rfl) (fun v3 hv3 => ?_)
  rw [show v3 = ((0 : Nat) : Int) from (by omega)]
  exact lpSum hG B hM hw Rt 0 (by omega) J (fun _ => 0) (fun _ _ _ _ => rfl) (fun b hb => by omega)


theorem tct_le (n t : Int) : ∀ k : Nat, 0 ≤ sumN (tct n t) k ∧ sumN (tct n t) k ≤ 1 * k := fun k => sumN_le (by omega) (fun i hi => by unfold tct; split <;> omega)


theorem tct_one (n t : Int) : sumN (tct n t) 1 = 0 := by
  show 0 + tct n t 0 = 0
  unfold tct
  rw [if_neg (fun h => by have := h.1; omega)]
  rfl
theorem tct_eq {n t : Int} {i : Nat} (hi : 0 < i) (h : bz (gz n t i = 0) = bz (gz n t ((i : Int) - 1) = 0)) : (0 : Int) = if trn n t i then 1 else 0 := by
  rw [if_neg]
  intro q
  have q2 := q.2
  rcases gz01 n t i with h1 | h1 <;> rcases gz01 n t ((i : Int) - 1) with h2 | h2 <;> rw [h1, h2] at h q2 <;> first | exact q2 rfl | exact absurd h (by decide)
theorem tct_ne {n t : Int} {i : Nat} (hi : 0 < i) (h : ¬ bz (gz n t i = 0) = bz (gz n t ((i : Int) - 1) = 0)) : (1 : Int) = if trn n t i then 1 else 0 := by
  rw [if_pos]
  exact ⟨hi, fun q => h (by rw [q])⟩
theorem lpTrn {G : gx_G} {X : gx_X} (hG : gx_OK G 91) (B : gx_B G X RX6 cX6_turns 4 rmX6_turns 91) {n : Nat} {J : zJ} {way : Int} (h5 : J 77 5 = (n : Int)) (h8 : n ≤ 8) (hw : -1 ≤ way ∧ way < 256) {post : Int → zJ → Prop} (Rt : gx_Ri G X .int (zpi post)) (hp1 : way = -1 → post 0 J) (hp2 : ¬ way = -1 → post (sumN (tct (n : Int) way) n) J) : ∀ i : Nat, i ≤ (n + 1) → 1 ≤ i → (way = -1 → i = 1) → (i ≤ n ∨ i = 1) → gx_WG G X 4 (zh J) 19 [(0, .ref (gx_ad G 76)), (1, .int (zI way)), (2, .int (zI (sumN (tct (n : Int) way) i))), (3, .int (zI (i : Int)))] [] := by
  refine up_ind (fun i hi ih => ?_)
  intro h1 hi1 hi2
  refine gx_iload_n B dX6_turns_19 rfl rfl ?_
  refine gx_aload_n B dX6_turns_20 rfl rfl ?_
  refine gx_getr (t := 77) B fl_X6_7 rfl (by decide) rfl dX6_turns_21 ?_
  refine z_iconst B dX6_turns_24 ?_
  refine z_iald 5 B rfl (by decide) rfl (by decide) (by decide) dX6_turns_25 ?_
  refine z_icmp_ge (tgt := 64) B dX6_turns_26 ⟨by omega, by omega⟩ ⟨by omega, by omega⟩ (by decide) (fun c26 => ?_) (fun c26 => ?_)
  · refine gx_iload_n B dX6_turns_64 rfl rfl ?_
    refine z_ireti B Rt dX6_turns_65 ?_
    by_cases e : way = -1
    · have h1 := hi1 e; subst h1; have e1 : sumN (tct (n : Int) way) 1 = 0 := tct_one _ _; rw [e1]; exact hp1 e
    · have hin : i = n ∨ (n = 0 ∧ i = 1) := by omega
      rcases hin with rfl | ⟨rfl, rfl⟩
      · exact hp2 e
      · have e1 : sumN (tct ((0 : Nat) : Int) way) 1 = sumN (tct ((0 : Nat) : Int) way) 0 := tct_one _ _
        rw [e1]; exact hp2 e
  · refine gx_iload_n B dX6_turns_29 rfl rfl ?_
    refine z_if_lt (tgt := 64) B dX6_turns_30 ⟨by omega, by omega⟩ (by decide) (fun c30 => ?_) (fun c30 => ?_)
    · refine gx_iload_n B dX6_turns_64 rfl rfl ?_
      refine z_ireti B Rt dX6_turns_65 ?_
      by_cases e : way = -1
      · have h1 := hi1 e; subst h1; have e1 : sumN (tct (n : Int) way) 1 = 0 := tct_one _ _; rw [e1]; exact hp1 e
      · have hin : i = n ∨ (n = 0 ∧ i = 1) := by omega
        rcases hin with rfl | ⟨rfl, rfl⟩
        · exact hp2 e
        · have e1 : sumN (tct ((0 : Nat) : Int) way) 1 = sumN (tct ((0 : Nat) : Int) way) 0 := tct_one _ _
          rw [e1]; exact hp2 e
    · refine gx_iload_n B dX6_turns_33 rfl rfl ?_
      refine gx_aload_n B dX6_turns_34 rfl rfl ?_
      refine gx_iload_n B dX6_turns_35 rfl rfl ?_
      refine gx_iload_n B dX6_turns_36 rfl rfl ?_
      refine z_callVi [.int (zI way), .int (zI (i : Int))] B lv_X6_145 (mX6_goesOut hG J (t := way) (b := (i : Int))) rfl (by decide) rfl rfl (Nat.le_of_ble_eq_true rfl) (by decide) (by decide) dX6_turns_37 (fun r2 J1 hJ1 => ?_)
      rw [show r2 = bz (gz (J 77 5) way (i : Int) = 0) from hJ1.1, hJ1.2]
      refine gx_aload_n B dX6_turns_40 rfl rfl ?_
      refine gx_iload_n B dX6_turns_41 rfl rfl ?_
      refine gx_iload_n B dX6_turns_42 rfl rfl ?_
      refine z_iconst B dX6_turns_43 ?_
      refine z_isub B dX6_turns_44 ?_
      refine z_callVi [.int (zI way), .int (zI ((i : Int) - 1))] B lv_X6_145 (mX6_goesOut hG J (t := way) (b := (i : Int) - 1)) rfl (by decide) rfl rfl (Nat.le_of_ble_eq_true rfl) (by decide) (by decide) dX6_turns_45 (fun r4 J3 hJ3 => ?_)
      rw [show r4 = bz (gz (J 77 5) way ((i : Int) - 1) = 0) from hJ3.1, hJ3.2]
      refine z_icmp_eq (tgt := 55) B dX6_turns_48 (bzB _) (bzB _) (by decide) (fun c48 => ?_) (fun c48 => ?_)
      · refine z_iconst B dX6_turns_55 ?_
        refine z_iadd B dX6_turns_56 ?_
        refine z_istore_n (fun v9 => [(0, .ref (gx_ad G 76)), (1, .int (zI way)), (2, .int (zI v9)), (3, .int (zI (i : Int)))]) B dX6_turns_57 rfl (by decide) rfl (fun _ => rfl) (fun v2 hv2 => ?_)
        rw [show v2 = sumN (tct (n : Int) way) (i + 1) from (by rw [hv2]; show _ = sumN (tct (n : Int) way) i + tct (n : Int) way i; congr 1; rw [h5] at c48; unfold tct; first | exact tct_eq (by omega) c48 | exact tct_ne (by omega) c48)]
        refine z_iinc (fun v9 => [(0, .ref (gx_ad G 76)), (1, .int (zI way)), (2, .int (zI (sumN (tct (n : Int) way) (i + 1)))), (3, .int (zI v9))]) B dX6_turns_58 rfl (by decide) rfl (fun _ => rfl) (fun v3 hv3 => ?_)
        rw [show v3 = ((i + 1 : Nat) : Int) from (by omega)]
        refine gx_goto (tgt := 19) B dX6_turns_61 (by decide) ?_
        exact ih (by omega) (by omega) (fun q => by omega) (by omega)
      · refine z_iconst B dX6_turns_51 ?_
        refine gx_goto (tgt := 56) B dX6_turns_52 (by decide) ?_
        refine z_iadd B dX6_turns_56 ?_
        refine z_istore_n (fun v9 => [(0, .ref (gx_ad G 76)), (1, .int (zI way)), (2, .int (zI v9)), (3, .int (zI (i : Int)))]) B dX6_turns_57 rfl (by decide) rfl (fun _ => rfl) (fun v2 hv2 => ?_)
        rw [show v2 = sumN (tct (n : Int) way) (i + 1) from (by rw [hv2]; show _ = sumN (tct (n : Int) way) i + tct (n : Int) way i; congr 1; rw [h5] at c48; unfold tct; first | exact tct_eq (by omega) c48 | exact tct_ne (by omega) c48)]
        refine z_iinc (fun v9 => [(0, .ref (gx_ad G 76)), (1, .int (zI way)), (2, .int (zI (sumN (tct (n : Int) way) (i + 1)))), (3, .int (zI v9))]) B dX6_turns_58 rfl (by decide) rfl (fun _ => rfl) (fun v3 hv3 => ?_)
        rw [show v3 = ((i + 1 : Nat) : Int) from (by omega)]
        refine gx_goto (tgt := 19) B dX6_turns_61 (by decide) ?_
        exact ih (by omega) (by omega) (fun q => by omega) (by omega)

theorem mX6_turns {l : Launch} {G : gx_G} (hG : gx_OK G 91) (J : zJ) {n : Nat} (hM : VM J n)  : zMi l G yX6_turns cX6_turns 4 .int rmX6_turns [.ref (gx_ad G 76)] J (fun r J' => RFr J J' ∧ ∃ way, WFound J J' n way ∧ (way = -1 → r = 0) ∧ (¬ way = -1 → r = sumN (tct (n : Int) way) n)) := by
  refine gx_mi hG (by decide) (Nat.le_of_ble_eq_true rfl) (fun X hla B Rt => ?_)
  subst hla
  have B : gx_B G X RX6 cX6_turns 4 rmX6_turns 91 := B
  show gx_WG G X 4 (zh J) 0 [(0, .ref (gx_ad G 76))] []
  obtain ⟨v1, v2, v3, v4, v5, ⟨h5, h8⟩, v7, v8⟩ := id hM
  refine gx_aload_n B dX6_turns_0 rfl rfl ?_
  refine z_callVv [] B lv_X6_133 (mX6_findUses hG J hM) rfl (by decide) rfl rfl (Nat.le_of_ble_eq_true rfl) (by decide) (by decide) dX6_turns_1 (fun J1 hJ1 => ?_)
  refine gx_aload_n B dX6_turns_4 rfl rfl ?_
  refine gx_aload_n B dX6_turns_5 rfl rfl ?_
  refine gx_getr (t := 77) B fl_X6_7 rfl (by decide) rfl dX6_turns_6 ?_
  refine z_iconst B dX6_turns_9 ?_
  refine z_iald 3 B rfl (by decide) rfl (by decide) (by decide) dX6_turns_10 ?_
  rw [show J1 77 3 = J 77 3 from (hJ1.2 _ _ (by omega) (by omega))]
  refine z_callVi [.int (zI (J 77 3))] B lv_X6_142 (mX6_findWay hG J1 (n := n) (room := J 77 3) (hJ1.1.cp hM hJ1.2) (by omega) (by omega)) rfl (by decide) rfl rfl (Nat.le_of_ble_eq_true rfl) (by decide) (by decide) dX6_turns_11 (fun way J2 hJ2 => ?_)
  have hww := BestM.way h8 hJ2.1
  have hW := WFound.of hJ1.1 hJ2.1 hJ2.2
  have hR2 := RFr.p hJ1.2 hJ2.2
  have e5 : J2 77 5 = (n : Int) := by rw [hR2 _ _ (by omega) (by omega)]; exact h5
  refine z_istore_n (fun v9 => [(0, .ref (gx_ad G 76)), (1, .int (zI v9))]) B dX6_turns_14 rfl (by decide) rfl (fun _ => rfl) (fun v9 hv9 => ?_)
  rw [hv9]
  refine z_iconst B dX6_turns_15 ?_
  refine z_istore_n (fun v9 => [(0, .ref (gx_ad G 76)), (1, .int (zI way)), (2, .int (zI v9))]) B dX6_turns_16 rfl (by decide) rfl (fun _ => rfl) (fun v2 hv2 => ?_)
  rw [show v2 = sumN (tct (n : Int) way) 1 from (by rw [hv2, tct_one])]
  refine z_iconst B dX6_turns_17 ?_
  refine z_istore_n (fun v9 => [(0, .ref (gx_ad G 76)), (1, .int (zI way)), (2, .int (zI (sumN (tct (n : Int) way) 1))), (3, .int (zI v9))]) B dX6_turns_18 rfl (by decide) rfl (fun _ => rfl) (fun v3 hv3 => ?_)
  rw [show v3 = ((1 : Nat) : Int) from (by omega)]
  exact lpTrn hG B e5 h8 hww Rt (fun q => ⟨hR2, way, hW, fun _ => rfl, fun q2 => absurd q q2⟩) (fun q => ⟨hR2, way, hW, fun q2 => absurd q2 q, fun _ => rfl⟩) 1 (by omega) (by omega) (fun _ => rfl) (Or.inr rfl)

theorem mX6_many {l : Launch} {G : gx_G} (hG : gx_OK G 91) (J : zJ) {n : Nat} (hM : VM J n) {w : Int} (hw : zB w) : zMi l G yX6_many cX6_many 2 .int rmX6_many [.ref (gx_ad G 76), .int (zI w)] J (fun r J' => RFr J J' ∧ (w = 0 → r = (n : Int)) ∧ (w = 1 → r = 12 * ones (J 77 1)) ∧ (2 ≤ w ∧ w ≤ 4 → ∃ g : Nat → Int, (∀ b, b < n → GVal J (w - 2) b (g b)) ∧ r = sumN g n) ∧ (w = 5 → ∃ way, WFound J J' n way ∧ (way = -1 → r = 0) ∧ (¬ way = -1 → r = sumN (tct (n : Int) way) n)) ∧ (w = 6 → r = J 77 0) ∧ (w = 7 → r = J 77 1) ∧ (¬ (0 ≤ w ∧ w ≤ 7) → r = -1)) := by
  refine gx_mi hG (by decide) (Nat.le_of_ble_eq_true rfl) (fun X hla B Rt => ?_)
  subst hla
  have B : gx_B G X RX6 cX6_many 2 rmX6_many 91 := B
  show gx_WG G X 2 (zh J) 0 [(0, .ref (gx_ad G 76)), (1, .int (zI w))] []
  obtain ⟨v1, v2, v3, v4, v5, ⟨h5, h8⟩, v7, v8⟩ := id hM
  refine gx_iload_n B dX6_many_0 rfl rfl ?_
  by_cases sw1 : 0 ≤ w ∧ w ≤ 7
  · have sw1r : w = 0 ∨ w = 1 ∨ w = 2 ∨ w = 3 ∨ w = 4 ∨ w = 5 ∨ w = 6 ∨ w = 7 := by omega
    rcases sw1r with sw1_0 | sw1_1 | sw1_2 | sw1_3 | sw1_4 | sw1_5 | sw1_6 | sw1_7
    · refine z_swIn (off := 47) (tgt := 48) B dX6_many_1 ⟨by omega, by omega⟩ (by omega) (by omega) (by rw [sw1_0]; decide) (by decide) ?_
      have q0 := 0
      refine gx_aload_n B dX6_many_48 rfl rfl ?_
      refine gx_getr (t := 77) B fl_X6_7 rfl (by decide) rfl dX6_many_49 ?_
      refine z_iconst B dX6_many_52 ?_
      refine z_iald 5 B rfl (by decide) rfl (by decide) (by decide) dX6_many_53 ?_
      refine z_ireti B Rt dX6_many_54 ?_
      exact ⟨fun _ _ _ _ => rfl, fun _ => h5, fun q => by omega, fun q => by omega, fun q => by omega, fun q => by omega, fun q => by omega, fun q => by omega⟩
    · refine z_swIn (off := 54) (tgt := 55) B dX6_many_1 ⟨by omega, by omega⟩ (by omega) (by omega) (by rw [sw1_1]; decide) (by decide) ?_
      have q0 := 0
      refine z_bipush B dX6_many_55 (by decide) ?_
      refine gx_aload_n B dX6_many_57 rfl rfl ?_
      refine gx_getr (t := 77) B fl_X6_7 rfl (by decide) rfl dX6_many_58 ?_
      refine z_iconst B dX6_many_61 ?_
      refine z_iald 1 B rfl (by decide) rfl (by decide) (by decide) dX6_many_62 ?_
      refine z_callSi [.int (zI (J 77 1))] B ls_X6_90 (mX6_ones hG J (x := J 77 1)) rfl rfl (Nat.le_of_ble_eq_true rfl) (by decide) (by decide) dX6_many_63 (fun r3 J2 hJ2 => ?_)
      rw [show r3 = ones (J 77 1) from hJ2.1, hJ2.2]
      refine z_imul B dX6_many_66 ?_
      refine z_ireti B Rt dX6_many_67 ?_
      exact ⟨fun _ _ _ _ => rfl, fun q => by omega, fun _ => rfl, fun q => by omega, fun q => by omega, fun q => by omega, fun q => by omega, fun q => by omega⟩
    · refine z_swIn (off := 67) (tgt := 68) B dX6_many_1 ⟨by omega, by omega⟩ (by omega) (by omega) (by rw [sw1_2]; decide) (by decide) ?_
      have q0 := 0
      refine gx_aload_n B dX6_many_68 rfl rfl ?_
      refine gx_iload_n B dX6_many_69 rfl rfl ?_
      refine z_iconst B dX6_many_70 ?_
      refine z_isub B dX6_many_71 ?_
      refine z_callVi [.int (zI (w - 2))] B lv_X6_151 (mX6_sum hG J hM (w := w - 2) ⟨by omega, by omega⟩) rfl (by decide) rfl rfl (Nat.le_of_ble_eq_true rfl) (by decide) (by decide) dX6_many_72 (fun r2 J2 hJ2 => ?_)
      refine z_ireti B Rt dX6_many_75 ?_
      exact ⟨hJ2.1, fun q => by omega, fun q => by omega, fun _ => hJ2.2, fun q => by omega, fun q => by omega, fun q => by omega, fun q => by omega⟩
    · refine z_swIn (off := 67) (tgt := 68) B dX6_many_1 ⟨by omega, by omega⟩ (by omega) (by omega) (by rw [sw1_3]; decide) (by decide) ?_
      have q0 := 0
      refine gx_aload_n B dX6_many_68 rfl rfl ?_
      refine gx_iload_n B dX6_many_69 rfl rfl ?_
      refine z_iconst B dX6_many_70 ?_
      refine z_isub B dX6_many_71 ?_
      refine z_callVi [.int (zI (w - 2))] B lv_X6_151 (mX6_sum hG J hM (w := w - 2) ⟨by omega, by omega⟩) rfl (by decide) rfl rfl (Nat.le_of_ble_eq_true rfl) (by decide) (by decide) dX6_many_72 (fun r2 J2 hJ2 => ?_)
      refine z_ireti B Rt dX6_many_75 ?_
      exact ⟨hJ2.1, fun q => by omega, fun q => by omega, fun _ => hJ2.2, fun q => by omega, fun q => by omega, fun q => by omega, fun q => by omega⟩
    · refine z_swIn (off := 67) (tgt := 68) B dX6_many_1 ⟨by omega, by omega⟩ (by omega) (by omega) (by rw [sw1_4]; decide) (by decide) ?_
      have q0 := 0
      refine gx_aload_n B dX6_many_68 rfl rfl ?_
      refine gx_iload_n B dX6_many_69 rfl rfl ?_
      refine z_iconst B dX6_many_70 ?_
      refine z_isub B dX6_many_71 ?_
      refine z_callVi [.int (zI (w - 2))] B lv_X6_151 (mX6_sum hG J hM (w := w - 2) ⟨by omega, by omega⟩) rfl (by decide) rfl rfl (Nat.le_of_ble_eq_true rfl) (by decide) (by decide) dX6_many_72 (fun r2 J2 hJ2 => ?_)
      refine z_ireti B Rt dX6_many_75 ?_
      exact ⟨hJ2.1, fun q => by omega, fun q => by omega, fun _ => hJ2.2, fun q => by omega, fun q => by omega, fun q => by omega, fun q => by omega⟩
    · refine z_swIn (off := 75) (tgt := 76) B dX6_many_1 ⟨by omega, by omega⟩ (by omega) (by omega) (by rw [sw1_5]; decide) (by decide) ?_
      have q0 := 0
      refine gx_aload_n B dX6_many_76 rfl rfl ?_
      refine z_callVi [] B lv_X6_154 (mX6_turns hG J hM) rfl (by decide) rfl rfl (Nat.le_of_ble_eq_true rfl) (by decide) (by decide) dX6_many_77 (fun r2 J2 hJ2 => ?_)
      refine z_ireti B Rt dX6_many_80 ?_
      exact ⟨hJ2.1, fun q => by omega, fun q => by omega, fun q => by omega, fun _ => hJ2.2, fun q => by omega, fun q => by omega, fun q => by omega⟩
    · refine z_swIn (off := 80) (tgt := 81) B dX6_many_1 ⟨by omega, by omega⟩ (by omega) (by omega) (by rw [sw1_6]; decide) (by decide) ?_
      have q0 := 0
      refine gx_aload_n B dX6_many_81 rfl rfl ?_
      refine gx_getr (t := 77) B fl_X6_7 rfl (by decide) rfl dX6_many_82 ?_
      refine gx_iload_n B dX6_many_85 rfl rfl ?_
      refine z_bipush B dX6_many_86 (by decide) ?_
      refine z_isub B dX6_many_88 ?_
      refine z_iald ((w - 6).toNat) B rfl (by decide) (by omega) (show (w - 6).toNat < 6 by omega) (by decide) dX6_many_89 ?_
      rw [show J 77 ((w - 6).toNat) = J 77 0 from (by rw [show (w - 6).toNat = 0 by omega])]
      refine z_ireti B Rt dX6_many_90 ?_
      exact ⟨fun _ _ _ _ => rfl, fun q => by omega, fun q => by omega, fun q => by omega, fun q => by omega, fun _ => rfl, fun q => by omega, fun q => by omega⟩
    · refine z_swIn (off := 80) (tgt := 81) B dX6_many_1 ⟨by omega, by omega⟩ (by omega) (by omega) (by rw [sw1_7]; decide) (by decide) ?_
      have q0 := 0
      refine gx_aload_n B dX6_many_81 rfl rfl ?_
      refine gx_getr (t := 77) B fl_X6_7 rfl (by decide) rfl dX6_many_82 ?_
      refine gx_iload_n B dX6_many_85 rfl rfl ?_
      refine z_bipush B dX6_many_86 (by decide) ?_
      refine z_isub B dX6_many_88 ?_
      refine z_iald ((w - 6).toNat) B rfl (by decide) (by omega) (show (w - 6).toNat < 6 by omega) (by decide) dX6_many_89 ?_
      rw [show J 77 ((w - 6).toNat) = J 77 1 from (by rw [show (w - 6).toNat = 1 by omega])]
      refine z_ireti B Rt dX6_many_90 ?_
      exact ⟨fun _ _ _ _ => rfl, fun q => by omega, fun q => by omega, fun q => by omega, fun q => by omega, fun q => by omega, fun _ => rfl, fun q => by omega⟩
  · refine z_swOut (tgt := 91) B dX6_many_1 ⟨by omega, by omega⟩ (by omega) (by decide) ?_
    refine z_iconst B dX6_many_91 ?_
    refine z_ireti B Rt dX6_many_92 ?_
    exact ⟨fun _ _ _ _ => rfl, fun q => by omega, fun q => by omega, fun q => by omega, fun q => by omega, fun q => by omega, fun q => by omega, fun _ => rfl⟩

