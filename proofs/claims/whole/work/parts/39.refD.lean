
theorem VM.jp {J : zJ} {n b : Nat} (h : VM J n) (hb : b < n) : JPre J b := by
  obtain ⟨v1, v2, v3, v4, v5, ⟨h5, h8⟩, v7, v8⟩ := h
  have := v7 b hb
  exact ⟨by omega, v1, this.1, this.2.1⟩
/-- a beat's good settings, found by the reference -/
def MGood (J J' : zJ) (b : Nat) : Prop := MG J' b (gMr (J 78 (4 * b)) (J 77 0) (J 77 1) (J 78 (4 * b + 1))) (gMc (J 78 (4 * b)) (J 77 0) (J 77 1) (J 78 (4 * b + 1))) (gMm (J 78 (4 * b)) (J 77 0) (J 77 1) (J 78 (4 * b + 1)))
theorem MG.bnd {J : zJ} {b : Nat} {s : GSt} {lc lm : Int} (h : MG J b s lc lm) (hc : lc = 0 ∨ lc = 1) (hm : lm = 0 ∨ lm = 1) : (0 ≤ J 80 b ∧ J 80 b ≤ 100) ∧ (0 ≤ J 81 b ∧ J 81 b ≤ 20) ∧ (0 ≤ J 82 b ∧ J 82 b ≤ 3) ∧ (0 ≤ J 83 b ∧ J 83 b ≤ 20) := by
  rcases h with ⟨h0, h1, h2, h3, h4⟩ | ⟨⟨r1, r2, r3⟩, h1, h2, h3, h4, h5, h6⟩
  · omega
  · have := h1.1.2.1
    omega
theorem gMc01 (w base rows lw : Int) : gMc w base rows lw = 0 ∨ gMc w base rows lw = 1 := by unfold gMc; split <;> simp
theorem gMm01 (w base rows lw : Int) : gMm w base rows lw = 0 ∨ gMm w base rows lw = 1 := by
  unfold gMm
  split
  · exact bz_01 _
  · exact Or.inl rfl
theorem MGood.bnd {J J' : zJ} {b : Nat} (h : MGood J J' b) : (0 ≤ J' 80 b ∧ J' 80 b ≤ 100) ∧ (0 ≤ J' 81 b ∧ J' 81 b ≤ 20) ∧ (0 ≤ J' 82 b ∧ J' 82 b ≤ 3) ∧ (0 ≤ J' 83 b ∧ J' 83 b ≤ 20) := MG.bnd h (gMc01 _ _ _ _) (gMm01 _ _ _ _)

theorem mX6_good {l : Launch} {G : gx_G} (hG : gx_OK G 91) (J : zJ) {n : Nat} (hM : VM J n) {b w : Int} (hb : zB b) (hw : zB w) : zMi l G yX6_good cX6_good 3 .int rmX6_good [.ref (gx_ad G 76), .int (zI b), .int (zI w)] J (fun r J' => (((0 ≤ b ∧ b < n) ∧ (0 ≤ w ∧ w ≤ 3)) ∧ MGood J J' b.toNat ∧ QFr J J' b.toNat ∧ (w = 0 → r = J' 80 b.toNat) ∧ (w = 1 → r = J' 81 b.toNat) ∧ (w = 2 → r = J' 82 b.toNat) ∧ (w = 3 → r = J' 83 b.toNat)) ∨ (¬ ((0 ≤ b ∧ b < n) ∧ (0 ≤ w ∧ w ≤ 3)) ∧ r = -1 ∧ J' = J)) := by
  refine gx_mi hG (by decide) (Nat.le_of_ble_eq_true rfl) (fun X hla B Rt => ?_)
  subst hla
  have B : gx_B G X RX6 cX6_good 3 rmX6_good 91 := B
  show gx_WG G X 3 (zh J) 0 [(0, .ref (gx_ad G 76)), (1, .int (zI b)), (2, .int (zI w))] []
  obtain ⟨v1, v2, v3, v4, v5, ⟨h5, h8⟩, v7, v8⟩ := id hM
  refine gx_aload_n B dX6_good_0 rfl rfl ?_
  refine gx_iload_n B dX6_good_1 rfl rfl ?_
  refine z_callVi [.int (zI b)] B lv_X6_79 (mX6_isBeat hG J hM hb) rfl (by decide) rfl rfl (Nat.le_of_ble_eq_true rfl) (by decide) (by decide) dX6_good_2 (fun r2 J1 hJ1 => ?_)
  rw [show r2 = bz (0 ≤ b ∧ b < n) from hJ1.1, hJ1.2]
  refine z_if_eq (tgt := 17) B dX6_good_5 (bzB _) (by decide) (fun c5 => ?_) (fun c5 => ?_)
  · rw [bz_0] at c5
    refine z_iconst B dX6_good_17 ?_
    refine z_ireti B Rt dX6_good_18 ?_
    exact Or.inr ⟨by first | exact (fun q => c14 q.2) | exact (fun q => c5 q.1), rfl, rfl⟩
  · rw [bz_n0] at c5
    obtain ⟨bb, rfl⟩ : ∃ bb : Nat, b = (bb : Int) := ⟨b.toNat, by omega⟩
    refine gx_iload_n B dX6_good_8 rfl rfl ?_
    refine z_iconst B dX6_good_9 ?_
    refine z_iconst B dX6_good_10 ?_
    refine z_callSi [.int (zI w), .int (zI 0), .int (zI 3)] B ls_X6_52 (mX6_in hG J (v := w) (a := 0) (b := 3) ⟨by omega, by omega⟩ ⟨by omega, by omega⟩ ⟨by omega, by omega⟩) rfl rfl (Nat.le_of_ble_eq_true rfl) (by decide) (by decide) dX6_good_11 (fun r4 J3 hJ3 => ?_)
    rw [show r4 = bz (0 ≤ w ∧ w ≤ 3) from hJ3.1, hJ3.2]
    refine z_if_ne (tgt := 19) B dX6_good_14 (bzB _) (by decide) (fun c14 => ?_) (fun c14 => ?_)
    · rw [bz_n0] at c14
      refine gx_aload_n B dX6_good_19 rfl rfl ?_
      refine gx_iload_n B dX6_good_20 rfl rfl ?_
      refine z_callVv [.int (zI (bb : Int))] B lv_X6_104 (mX6_findGood hG J (b := bb) (hM.jp (by omega))) rfl (by decide) rfl rfl (Nat.le_of_ble_eq_true rfl) (by decide) (by decide) dX6_good_21 (fun J1 hJ1 => ?_)
      refine gx_iload_n B dX6_good_24 rfl rfl ?_
      refine z_if_ne (tgt := 37) B dX6_good_25 ⟨by omega, by omega⟩ (by decide) (fun c25_6 => ?_) (fun c25_6 => ?_)
      · refine gx_iload_n B dX6_good_37 rfl rfl ?_
        refine z_iconst B dX6_good_38 ?_
        refine z_icmp_ne (tgt := 51) B dX6_good_39 ⟨by omega, by omega⟩ ⟨by omega, by omega⟩ (by decide) (fun c39_7 => ?_) (fun c39_7 => ?_)
        · refine gx_iload_n B dX6_good_51 rfl rfl ?_
          refine z_iconst B dX6_good_52 ?_
          refine z_icmp_ne (tgt := 65) B dX6_good_53 ⟨by omega, by omega⟩ ⟨by omega, by omega⟩ (by decide) (fun c53_8 => ?_) (fun c53_8 => ?_)
          · refine gx_aload_n B dX6_good_65 rfl rfl ?_
            refine gx_getr (t := 83) B fl_X6_28 rfl (by decide) rfl dX6_good_66 ?_
            refine gx_iload_n B dX6_good_69 rfl rfl ?_
            refine z_iald bb B rfl (by decide) rfl (show bb < 8 by omega) (by decide) dX6_good_70 ?_
            refine z_ireti B Rt dX6_good_71 ?_
            exact Or.inl ⟨⟨c5, c14⟩, hJ1.1, hJ1.2, fun q => by first | rfl | (exfalso; omega), fun q => by first | rfl | (exfalso; omega), fun q => by first | rfl | (exfalso; omega), fun q => by first | rfl | (exfalso; omega)⟩
          · refine gx_aload_n B dX6_good_56 rfl rfl ?_
            refine gx_getr (t := 82) B fl_X6_25 rfl (by decide) rfl dX6_good_57 ?_
            refine gx_iload_n B dX6_good_60 rfl rfl ?_
            refine z_iald bb B rfl (by decide) rfl (show bb < 8 by omega) (by decide) dX6_good_61 ?_
            refine gx_goto (tgt := 71) B dX6_good_62 (by decide) ?_
            refine z_ireti B Rt dX6_good_71 ?_
            exact Or.inl ⟨⟨c5, c14⟩, hJ1.1, hJ1.2, fun q => by first | rfl | (exfalso; omega), fun q => by first | rfl | (exfalso; omega), fun q => by first | rfl | (exfalso; omega), fun q => by first | rfl | (exfalso; omega)⟩
        · refine gx_aload_n B dX6_good_42 rfl rfl ?_
          refine gx_getr (t := 81) B fl_X6_22 rfl (by decide) rfl dX6_good_43 ?_
          refine gx_iload_n B dX6_good_46 rfl rfl ?_
          refine z_iald bb B rfl (by decide) rfl (show bb < 8 by omega) (by decide) dX6_good_47 ?_
          refine gx_goto (tgt := 71) B dX6_good_48 (by decide) ?_
          refine z_ireti B Rt dX6_good_71 ?_
          exact Or.inl ⟨⟨c5, c14⟩, hJ1.1, hJ1.2, fun q => by first | rfl | (exfalso; omega), fun q => by first | rfl | (exfalso; omega), fun q => by first | rfl | (exfalso; omega), fun q => by first | rfl | (exfalso; omega)⟩
      · refine gx_aload_n B dX6_good_28 rfl rfl ?_
        refine gx_getr (t := 80) B fl_X6_19 rfl (by decide) rfl dX6_good_29 ?_
        refine gx_iload_n B dX6_good_32 rfl rfl ?_
        refine z_iald bb B rfl (by decide) rfl (show bb < 8 by omega) (by decide) dX6_good_33 ?_
        refine gx_goto (tgt := 71) B dX6_good_34 (by decide) ?_
        refine z_ireti B Rt dX6_good_71 ?_
        exact Or.inl ⟨⟨c5, c14⟩, hJ1.1, hJ1.2, fun q => by first | rfl | (exfalso; omega), fun q => by first | rfl | (exfalso; omega), fun q => by first | rfl | (exfalso; omega), fun q => by first | rfl | (exfalso; omega)⟩
    · rw [bz_0] at c14
      refine z_iconst B dX6_good_17 ?_
      refine z_ireti B Rt dX6_good_18 ?_
      exact Or.inr ⟨by first | exact (fun q => c14 q.2) | exact (fun q => c5 q.1), rfl, rfl⟩

theorem mX6_button {l : Launch} {G : gx_G} (hG : gx_OK G 91) (J : zJ) {n : Nat} (hM : VM J n) {b k i : Int} (hb : zB b) (hk : zB k) (hi : zB i) : zMi l G yX6_button cX6_button 4 .int rmX6_button [.ref (gx_ad G 76), .int (zI b), .int (zI k), .int (zI i)] J (fun r J' => ((0 ≤ b ∧ b < n) ∧ MGood J J' b.toNat ∧ QFr J J' b.toNat ∧ ((0 ≤ k ∧ k < J' 83 b.toNat ∧ 0 ≤ i ∧ i < J' 82 b.toNat) → r = J' 84 (60 * b.toNat + 3 * k.toNat + i.toNat)) ∧ (¬ (0 ≤ k ∧ k < J' 83 b.toNat ∧ 0 ≤ i ∧ i < J' 82 b.toNat) → r = -3)) ∨ (¬ (0 ≤ b ∧ b < n) ∧ r = -1 ∧ J' = J)) := by
  refine gx_mi hG (by decide) (Nat.le_of_ble_eq_true rfl) (fun X hla B Rt => ?_)
  subst hla
  have B : gx_B G X RX6 cX6_button 4 rmX6_button 91 := B
  show gx_WG G X 4 (zh J) 0 [(0, .ref (gx_ad G 76)), (1, .int (zI b)), (2, .int (zI k)), (3, .int (zI i))] []
  obtain ⟨v1, v2, v3, v4, v5, ⟨h5, h8⟩, v7, v8⟩ := id hM
  refine gx_aload_n B dX6_button_0 rfl rfl ?_
  refine gx_iload_n B dX6_button_1 rfl rfl ?_
  refine z_callVi [.int (zI b)] B lv_X6_79 (mX6_isBeat hG J hM hb) rfl (by decide) rfl rfl (Nat.le_of_ble_eq_true rfl) (by decide) (by decide) dX6_button_2 (fun r2 J1 hJ1 => ?_)
  rw [show r2 = bz (0 ≤ b ∧ b < n) from hJ1.1, hJ1.2]
  refine z_if_ne (tgt := 10) B dX6_button_5 (bzB _) (by decide) (fun c5 => ?_) (fun c5 => ?_)
  · rw [bz_n0] at c5
    obtain ⟨bb, rfl⟩ : ∃ bb : Nat, b = (bb : Int) := ⟨b.toNat, by omega⟩
    refine gx_aload_n B dX6_button_10 rfl rfl ?_
    refine gx_iload_n B dX6_button_11 rfl rfl ?_
    refine z_callVv [.int (zI (bb : Int))] B lv_X6_104 (mX6_findGood hG J (b := bb) (hM.jp (by omega))) rfl (by decide) rfl rfl (Nat.le_of_ble_eq_true rfl) (by decide) (by decide) dX6_button_12 (fun J1 hJ1 => ?_)
    have hbd := MGood.bnd hJ1.1
    refine gx_iload_n B dX6_button_15 rfl rfl ?_
    refine z_iconst B dX6_button_16 ?_
    refine gx_aload_n B dX6_button_17 rfl rfl ?_
    refine gx_getr (t := 83) B fl_X6_28 rfl (by decide) rfl dX6_button_18 ?_
    refine gx_iload_n B dX6_button_21 rfl rfl ?_
    refine z_iald bb B rfl (by decide) rfl (show bb < 8 by omega) (by decide) dX6_button_22 ?_
    refine z_iconst B dX6_button_23 ?_
    refine z_isub B dX6_button_24 ?_
    refine z_callSi [.int (zI k), .int (zI 0), .int (zI ((J1 83 bb) - 1))] B ls_X6_52 (mX6_in hG J1 (v := k) (a := 0) (b := (J1 83 bb) - 1) ⟨by omega, by omega⟩ ⟨by omega, by omega⟩ ⟨by omega, by omega⟩) rfl rfl (Nat.le_of_ble_eq_true rfl) (by decide) (by decide) dX6_button_25 (fun r5 J4 hJ4 => ?_)
    rw [show r5 = bz (0 ≤ k ∧ k ≤ (J1 83 bb) - 1) from hJ4.1, hJ4.2]
    refine z_if_eq (tgt := 65) B dX6_button_28 (bzB _) (by decide) (fun c28 => ?_) (fun c28 => ?_)
    · rw [bz_0] at c28
      refine z_bipush B dX6_button_65 (by decide) ?_
      refine z_ireti B Rt dX6_button_67 ?_
      exact Or.inl ⟨c5, hJ1.1, hJ1.2, fun q => by first | rfl | (exfalso; simp only [Int.toNat_natCast] at q; omega), fun q => by first | rfl | (exfalso; simp only [Int.toNat_natCast] at q; omega)⟩
    · rw [bz_n0] at c28
      refine gx_iload_n B dX6_button_31 rfl rfl ?_
      refine z_iconst B dX6_button_32 ?_
      refine gx_aload_n B dX6_button_33 rfl rfl ?_
      refine gx_getr (t := 82) B fl_X6_25 rfl (by decide) rfl dX6_button_34 ?_
      refine gx_iload_n B dX6_button_37 rfl rfl ?_
      refine z_iald bb B rfl (by decide) rfl (show bb < 8 by omega) (by decide) dX6_button_38 ?_
      refine z_iconst B dX6_button_39 ?_
      refine z_isub B dX6_button_40 ?_
      refine z_callSi [.int (zI i), .int (zI 0), .int (zI ((J1 82 bb) - 1))] B ls_X6_52 (mX6_in hG J1 (v := i) (a := 0) (b := (J1 82 bb) - 1) ⟨by omega, by omega⟩ ⟨by omega, by omega⟩ ⟨by omega, by omega⟩) rfl rfl (Nat.le_of_ble_eq_true rfl) (by decide) (by decide) dX6_button_41 (fun r7 J6 hJ6 => ?_)
      rw [show r7 = bz (0 ≤ i ∧ i ≤ (J1 82 bb) - 1) from hJ6.1, hJ6.2]
      refine z_if_eq (tgt := 65) B dX6_button_44 (bzB _) (by decide) (fun c44 => ?_) (fun c44 => ?_)
      · rw [bz_0] at c44
        refine z_bipush B dX6_button_65 (by decide) ?_
        refine z_ireti B Rt dX6_button_67 ?_
        exact Or.inl ⟨c5, hJ1.1, hJ1.2, fun q => by first | rfl | (exfalso; simp only [Int.toNat_natCast] at q; omega), fun q => by first | rfl | (exfalso; simp only [Int.toNat_natCast] at q; omega)⟩
      · rw [bz_n0] at c44
        refine gx_aload_n B dX6_button_47 rfl rfl ?_
        refine gx_getr (t := 84) B fl_X6_31 rfl (by decide) rfl dX6_button_48 ?_
        refine z_bipush B dX6_button_51 (by decide) ?_
        refine gx_iload_n B dX6_button_53 rfl rfl ?_
        refine z_imul B dX6_button_54 ?_
        refine z_iconst B dX6_button_55 ?_
        refine gx_iload_n B dX6_button_56 rfl rfl ?_
        refine z_imul B dX6_button_57 ?_
        refine z_iadd B dX6_button_58 ?_
        refine gx_iload_n B dX6_button_59 rfl rfl ?_
        refine z_iadd B dX6_button_60 ?_
        refine z_iald (60 * bb + 3 * k.toNat + i.toNat) B rfl (by decide) (by omega) (show 60 * bb + 3 * k.toNat + i.toNat < 480 by omega) (by decide) dX6_button_61 ?_
        refine gx_goto (tgt := 67) B dX6_button_62 (by decide) ?_
        refine z_ireti B Rt dX6_button_67 ?_
        exact Or.inl ⟨c5, hJ1.1, hJ1.2, fun q => by first | rfl | (exfalso; simp only [Int.toNat_natCast] at q; omega), fun q => by first | rfl | (exfalso; simp only [Int.toNat_natCast] at q; omega)⟩
  · rw [bz_0] at c5
    refine z_iconst B dX6_button_8 ?_
    refine z_ireti B Rt dX6_button_9 ?_
    exact Or.inr ⟨c5, rfl, rfl⟩


def mpl (J : zJ) (b k : Nat) : Int := zdiv (J 84 (60 * b + 3 * k)) 6
def mtc (J : zJ) (b k : Nat) : Int := J 86 (20 * b + k)
def mct (J : zJ) (b : Nat) : Nat := (J 83 b).toNat
/-- what behind needs: sizes and counts of the first beats from lo on, places below 22 -/
def HPm (J : zJ) (n lo : Nat) : Prop := J 77 5 = (n : Int) ∧ n ≤ 8 ∧ ∀ b, lo ≤ b → b < n → (0 ≤ J 82 b ∧ J 82 b ≤ 3) ∧ (1 ≤ J 83 b ∧ J 83 b ≤ 20) ∧ (0 < J 82 b → ∀ k, k < mct J b → 0 ≤ mpl J b k ∧ mpl J b k ≤ 21)

theorem lpBeh {G : gx_G} {X : gx_X} (hG : gx_OK G 91) (B : gx_B G X RX6 cX6_behind 7 rmX6_behind 91) {n b k m : Nat} {J : zJ} (hP : HPm J n b) (hb : b < n) (hk : k < mct J b) (hbm : b < m) (hm : m < n) (hsb : 0 < J 82 b) (hsm : 0 < J 82 m) (ht : ∀ j, j < mct J m → 0 ≤ mtc J m j ∧ mtc J m j ≤ 1000) {post : Int → zJ → Prop} (Rt : gx_Ri G X .int (zpi post)) (hp : post (minN (fun j => absZ (mpl J b k - mpl J m j) + mtc J m j) 1000000 (mct J m)) J) : ∀ i : Nat, i ≤ mct J m → gx_WG G X 7 (zh J) 27 [(0, .ref (gx_ad G 76)), (1, .int (zI (b : Int))), (2, .int (zI (k : Int))), (3, .int (zI (m : Int))), (4, .int (zI (minN (fun j => absZ (mpl J b k - mpl J m j) + mtc J m j) 1000000 i))), (5, .int (zI (i : Int)))] [] := by
  refine up_ind (fun i hi ih => ?_)
  have h8 := hP.2.1
  have hPm := hP.2.2 m (by omega) hm
  have hPb := hP.2.2 b (by omega) hb
  have hct : J 83 m = (mct J m : Int) := by unfold mct; omega
  have hctb : J 83 b = (mct J b : Int) := by unfold mct; omega
  have hmn := minN_le_i (f := (fun j => absZ (mpl J b k - mpl J m j) + mtc J m j)) (i := 1000000) i
  have hpk := hPb.2.2 hsb k hk
  have hgn : 0 ≤ minN (fun j => absZ (mpl J b k - mpl J m j) + mtc J m j) 1000000 i := minN_ge (by omega) (fun j hj => by have h1 := absZ_le (x := mpl J b k - mpl J m j) (b := 21) (by have := hPm.2.2 hsm j (by omega); omega) (by have := hPm.2.2 hsm j (by omega); omega); have h2 := ht j (by omega); omega)
  refine gx_iload B dX6_behind_27 rfl ?_
  refine gx_aload_n B dX6_behind_29 rfl rfl ?_
  refine gx_getr (t := 83) B fl_X6_28 rfl (by decide) rfl dX6_behind_30 ?_
  refine gx_iload_n B dX6_behind_33 rfl rfl ?_
  refine z_iald m B rfl (by decide) rfl (show m < 8 by omega) (by decide) dX6_behind_34 ?_
  refine z_icmp_ge (tgt := 91) B dX6_behind_35 ⟨by omega, by omega⟩ ⟨by omega, by omega⟩ (by decide) (fun c35 => ?_) (fun c35 => ?_)
  · refine gx_iload B dX6_behind_91 rfl ?_
    refine z_ireti B Rt dX6_behind_93 ?_
    obtain rfl : i = mct J m := by omega
    exact hp
  · have hpi := hPm.2.2 hsm i (by omega)
    have hti : 0 ≤ mtc J m i ∧ mtc J m i ≤ 1000 := ht i (by omega)
    have hab := absZ_le (x := mpl J b k - mpl J m i) (b := 21) (by omega) (by omega)
    refine gx_aload_n B dX6_behind_38 rfl rfl ?_
    refine gx_iload_n B dX6_behind_39 rfl rfl ?_
    refine gx_iload_n B dX6_behind_40 rfl rfl ?_
    refine z_callVi [.int (zI (b : Int)), .int (zI (k : Int))] B lv_X6_111 (mX6_placeOf hG J (b := b) (k := k) (by omega) (by omega)) rfl (by decide) rfl rfl (Nat.le_of_ble_eq_true rfl) (by decide) (by decide) dX6_behind_41 (fun r2 J1 hJ1 => ?_)
    rw [show r2 = mpl J b k from hJ1.1, hJ1.2]
    refine gx_aload_n B dX6_behind_44 rfl rfl ?_
    refine gx_iload_n B dX6_behind_45 rfl rfl ?_
    refine gx_iload B dX6_behind_46 rfl ?_
    refine z_callVi [.int (zI (m : Int)), .int (zI (i : Int))] B lv_X6_111 (mX6_placeOf hG J (b := m) (k := i) (by omega) (by omega)) rfl (by decide) rfl rfl (Nat.le_of_ble_eq_true rfl) (by decide) (by decide) dX6_behind_48 (fun r4 J3 hJ3 => ?_)
    rw [show r4 = mpl J m i from hJ3.1, hJ3.2]
    refine z_callSi [.int (zI (mpl J b k)), .int (zI (mpl J m i))] B ls_X6_115 (mX6_away hG J (a := mpl J b k) (b := mpl J m i) ⟨by omega, by omega⟩ ⟨by omega, by omega⟩) rfl rfl (Nat.le_of_ble_eq_true rfl) (by decide) (by decide) dX6_behind_51 (fun r6 J5 hJ5 => ?_)
    rw [show r6 = absZ (mpl J b k - (mpl J m i)) from hJ5.1, hJ5.2]
    refine gx_aload_n B dX6_behind_54 rfl rfl ?_
    refine gx_getr (t := 86) B fl_X6_37 rfl (by decide) rfl dX6_behind_55 ?_
    refine z_bipush B dX6_behind_58 (by decide) ?_
    refine gx_iload_n B dX6_behind_60 rfl rfl ?_
    refine z_imul B dX6_behind_61 ?_
    refine gx_iload B dX6_behind_62 rfl ?_
    refine z_iadd B dX6_behind_64 ?_
    refine z_iald (20 * m + i) B rfl (by decide) (by omega) (show 20 * m + i < 160 by omega) (by decide) dX6_behind_65 ?_
    rw [show J 86 (20 * m + i) = mtc J m i from rfl]
    refine z_iadd B dX6_behind_66 ?_
    refine z_istore (fun v9 => [(0, .ref (gx_ad G 76)), (1, .int (zI (b : Int))), (2, .int (zI (k : Int))), (3, .int (zI (m : Int))), (4, .int (zI (minN (fun j => absZ (mpl J b k - mpl J m j) + mtc J m j) 1000000 i))), (5, .int (zI (i : Int))), (6, .int (zI v9))]) B dX6_behind_67 (by decide) rfl (fun _ => rfl) (fun v9 hv9 => ?_)
    rw [hv9]
    refine gx_iload B dX6_behind_69 rfl ?_
    refine gx_iload B dX6_behind_71 rfl ?_
    refine z_icmp_ge (tgt := 81) B dX6_behind_73 ⟨by omega, by omega⟩ ⟨by omega, by omega⟩ (by decide) (fun c73 => ?_) (fun c73 => ?_)
    · refine gx_iload B dX6_behind_81 rfl ?_
      refine z_istore (fun v9 => [(0, .ref (gx_ad G 76)), (1, .int (zI (b : Int))), (2, .int (zI (k : Int))), (3, .int (zI (m : Int))), (4, .int (zI v9)), (5, .int (zI (i : Int))), (6, .int (zI ((absZ (mpl J b k - (mpl J m i))) + (mtc J m i))))]) B dX6_behind_83 (by decide) rfl (fun _ => rfl) (fun v4 hv4 => ?_)
      rw [show v4 = minN (fun j => absZ (mpl J b k - mpl J m j) + mtc J m j) 1000000 (i + 1) from (by rw [hv4]; show _ = min (minN (fun j => absZ (mpl J b k - mpl J m j) + mtc J m j) 1000000 i) (absZ (mpl J b k - mpl J m i) + mtc J m i); omega)]
      refine z_iinc (fun v9 => [(0, .ref (gx_ad G 76)), (1, .int (zI (b : Int))), (2, .int (zI (k : Int))), (3, .int (zI (m : Int))), (4, .int (zI (minN (fun j => absZ (mpl J b k - mpl J m j) + mtc J m j) 1000000 (i + 1)))), (5, .int (zI v9)), (6, .int (zI ((absZ (mpl J b k - (mpl J m i))) + (mtc J m i))))]) B dX6_behind_85 rfl (by decide) rfl (fun _ => rfl) (fun v5 hv5 => ?_)
      rw [show v5 = ((i + 1 : Nat) : Int) from (by omega)]
      refine gx_goto (tgt := 27) B dX6_behind_88 (by decide) ?_
      refine gx_sub [0, 1, 2, 3, 4, 5] rfl ?_
      exact ih (by omega)
    · refine gx_iload B dX6_behind_76 rfl ?_
      refine gx_goto (tgt := 83) B dX6_behind_78 (by decide) ?_
      refine z_istore (fun v9 => [(0, .ref (gx_ad G 76)), (1, .int (zI (b : Int))), (2, .int (zI (k : Int))), (3, .int (zI (m : Int))), (4, .int (zI v9)), (5, .int (zI (i : Int))), (6, .int (zI ((absZ (mpl J b k - (mpl J m i))) + (mtc J m i))))]) B dX6_behind_83 (by decide) rfl (fun _ => rfl) (fun v4 hv4 => ?_)
      rw [show v4 = minN (fun j => absZ (mpl J b k - mpl J m j) + mtc J m j) 1000000 (i + 1) from (by rw [hv4]; show _ = min (minN (fun j => absZ (mpl J b k - mpl J m j) + mtc J m j) 1000000 i) (absZ (mpl J b k - mpl J m i) + mtc J m i); omega)]
      refine z_iinc (fun v9 => [(0, .ref (gx_ad G 76)), (1, .int (zI (b : Int))), (2, .int (zI (k : Int))), (3, .int (zI (m : Int))), (4, .int (zI (minN (fun j => absZ (mpl J b k - mpl J m j) + mtc J m j) 1000000 (i + 1)))), (5, .int (zI v9)), (6, .int (zI ((absZ (mpl J b k - (mpl J m i))) + (mtc J m i))))]) B dX6_behind_85 rfl (by decide) rfl (fun _ => rfl) (fun v5 hv5 => ?_)
      rw [show v5 = ((i + 1 : Nat) : Int) from (by omega)]
      refine gx_goto (tgt := 27) B dX6_behind_88 (by decide) ?_
      refine gx_sub [0, 1, 2, 3, 4, 5] rfl ?_
      exact ih (by omega)

theorem mX6_behind {l : Launch} {G : gx_G} (hG : gx_OK G 91) (J : zJ) {n b k : Nat} (hP : HPm J n b) (hz0 : ∀ x, b + 1 ≤ x → x < n → 0 ≤ J 82 x ∧ J 82 x ≤ 3) (hb : b < n) (hk : k < mct J b) (hsb : 0 < J 82 b) (ht : ∀ m, b < m → m < n → 0 < J 82 m → ∀ j, j < mct J m → 0 ≤ mtc J m j ∧ mtc J m j ≤ 1000) : zMi l G yX6_behind cX6_behind 7 .int rmX6_behind [.ref (gx_ad G 76), .int (zI (b : Int)), .int (zI (k : Int))] J (fun r J' => (∀ m, isNx (J 82) n (b + 1) m → (m = n → r = 0) ∧ (m < n → r = minN (fun j => absZ (mpl J b k - mpl J m j) + mtc J m j) 1000000 (mct J m))) ∧ J' = J) := by
  refine gx_mi hG (by decide) (Nat.le_of_ble_eq_true rfl) (fun X hla B Rt => ?_)
  subst hla
  have B : gx_B G X RX6 cX6_behind 7 rmX6_behind 91 := B
  show gx_WG G X 7 (zh J) 0 [(0, .ref (gx_ad G 76)), (1, .int (zI (b : Int))), (2, .int (zI (k : Int)))] []
  refine gx_aload_n B dX6_behind_0 rfl rfl ?_
  refine gx_iload_n B dX6_behind_1 rfl rfl ?_
  refine z_iconst B dX6_behind_2 ?_
  refine z_iadd B dX6_behind_3 ?_
  rw [show (b : Int) + 1 = ((b + 1 : Nat) : Int) by omega]
  have q4 := 0
  refine z_callVi [.int (zI ((b + 1 : Nat) : Int))] B lv_X6_107 (mX6_nextWith hG J (n := n) (b0 := b + 1) hP.1 hP.2.1 hz0 (by omega)) rfl (by decide) rfl rfl (Nat.le_of_ble_eq_true rfl) (by decide) (by decide) dX6_behind_4 (fun nx J1 hJ1 => ?_)
  rw [hJ1.2]
  have h_nx := hJ1.1
  obtain ⟨m, rfl, hnx⟩ := h_nx
  have hm1 := hnx.1
  have hm2 := hnx.2.1
  have h5 := hP.1
  have h8 := hP.2.1
  refine z_istore_n (fun v9 => [(0, .ref (gx_ad G 76)), (1, .int (zI (b : Int))), (2, .int (zI (k : Int))), (3, .int (zI v9))]) B dX6_behind_7 rfl (by decide) rfl (fun _ => rfl) (fun v9 hv9 => ?_)
  rw [hv9]
  refine gx_iload_n B dX6_behind_8 rfl rfl ?_
  refine gx_aload_n B dX6_behind_9 rfl rfl ?_
  refine gx_getr (t := 77) B fl_X6_7 rfl (by decide) rfl dX6_behind_10 ?_
  refine z_iconst B dX6_behind_13 ?_
  refine z_iald 5 B rfl (by decide) rfl (by decide) (by decide) dX6_behind_14 ?_
  refine z_icmp_ne (tgt := 20) B dX6_behind_15 ⟨by omega, by omega⟩ ⟨by omega, by omega⟩ (by decide) (fun c15 => ?_) (fun c15 => ?_)
  · refine z_ldc 1000000 B dX6_behind_20 lk_X6_110 (by decide) ?_
    refine z_istore (fun v9 => [(0, .ref (gx_ad G 76)), (1, .int (zI (b : Int))), (2, .int (zI (k : Int))), (3, .int (zI (m : Int))), (4, .int (zI v9))]) B dX6_behind_22 (by decide) rfl (fun _ => rfl) (fun v4 hv4 => ?_)
    rw [show v4 = minN (fun j => absZ (mpl J b k - mpl J m j) + mtc J m j) 1000000 0 from (by rw [hv4]; rfl)]
    refine z_iconst B dX6_behind_24 ?_
    refine z_istore (fun v9 => [(0, .ref (gx_ad G 76)), (1, .int (zI (b : Int))), (2, .int (zI (k : Int))), (3, .int (zI (m : Int))), (4, .int (zI (minN (fun j => absZ (mpl J b k - mpl J m j) + mtc J m j) 1000000 0))), (5, .int (zI v9))]) B dX6_behind_25 (by decide) rfl (fun _ => rfl) (fun v5 hv5 => ?_)
    rw [show v5 = ((0 : Nat) : Int) from (by omega)]
    exact lpBeh hG B hP hb hk (by omega) (by omega) hsb (hnx.2.2.2 (by omega)) (ht m (by omega) (by omega) (hnx.2.2.2 (by omega))) Rt ⟨fun m1 h1 => by have := isNx_uni h1 hnx; subst this; exact ⟨fun q => by omega, fun _ => rfl⟩, rfl⟩ 0 (by omega)
  · refine z_iconst B dX6_behind_18 ?_
    refine z_ireti B Rt dX6_behind_19 ?_
    exact ⟨fun m1 h1 => by have := isNx_uni h1 hnx; subst this; exact ⟨fun _ => rfl, fun q => by omega⟩, rfl⟩


/-- the sound of the chosen setting, as the reference hears it *)-/
def mnt (J : zJ) (b : Nat) : Int := orN (fun i => snd (J 77 0) (J 84 (60 * b + 3 * (J 87 b).toNat + i))) (J 82 b).toNat

theorem lpHrd {G : gx_G} {X : gx_X} (hG : gx_OK G 91) (B : gx_B G X RX6 cX6_heardAt 4 rmX6_heardAt 91) {b : Nat} {J : zJ} (hb : b < 8) (hs0 : 0 ≤ J 82 b) (hs1 : J 82 b ≤ 3) (hc0 : 0 ≤ J 87 b) (hc1 : J 87 b < 20) (Rt : gx_Ri G X .int (zpi (fun r J' => r = mnt J b ∧ J' = J))) : ∀ i : Nat, i ≤ (J 82 b).toNat → gx_WG G X 4 (zh J) 4 [(0, .ref (gx_ad G 76)), (1, .int (zI (b : Int))), (2, .int (zI (orN (fun i => snd (J 77 0) (J 84 (60 * b + 3 * (J 87 b).toNat + i))) i))), (3, .int (zI (i : Int)))] [] := by
  refine up_ind (fun i hi ih => ?_)
  refine gx_iload_n B dX6_heardAt_4 rfl rfl ?_
  refine gx_aload_n B dX6_heardAt_5 rfl rfl ?_
  refine gx_getr (t := 82) B fl_X6_25 rfl (by decide) rfl dX6_heardAt_6 ?_
  refine gx_iload_n B dX6_heardAt_9 rfl rfl ?_
  refine z_iald b B rfl (by decide) rfl hb (by decide) dX6_heardAt_10 ?_
  refine z_icmp_ge (tgt := 47) B dX6_heardAt_11 ⟨by omega, by omega⟩ ⟨by omega, by omega⟩ (by decide) (fun c11 => ?_) (fun c11 => ?_)
  · refine gx_iload_n B dX6_heardAt_47 rfl rfl ?_
    refine z_ireti B Rt dX6_heardAt_48 ?_
    refine ⟨?_, rfl⟩
    unfold mnt
    rw [show i = (J 82 b).toNat by omega]
  · refine gx_iload_n B dX6_heardAt_14 rfl rfl ?_
    refine gx_aload_n B dX6_heardAt_15 rfl rfl ?_
    refine gx_aload_n B dX6_heardAt_16 rfl rfl ?_
    refine gx_getr (t := 84) B fl_X6_31 rfl (by decide) rfl dX6_heardAt_17 ?_
    refine z_bipush B dX6_heardAt_20 (by decide) ?_
    refine gx_iload_n B dX6_heardAt_22 rfl rfl ?_
    refine z_imul B dX6_heardAt_23 ?_
    refine z_iconst B dX6_heardAt_24 ?_
    refine gx_aload_n B dX6_heardAt_25 rfl rfl ?_
    refine gx_getr (t := 87) B fl_X6_40 rfl (by decide) rfl dX6_heardAt_26 ?_
    refine gx_iload_n B dX6_heardAt_29 rfl rfl ?_
    refine z_iald b B rfl (by decide) rfl hb (by decide) dX6_heardAt_30 ?_
    refine z_imul B dX6_heardAt_31 ?_
    refine z_iadd B dX6_heardAt_32 ?_
    refine gx_iload_n B dX6_heardAt_33 rfl rfl ?_
    refine z_iadd B dX6_heardAt_34 ?_
    refine z_iald (60 * b + 3 * (J 87 b).toNat + i) B rfl (by decide) (by omega) (show 60 * b + 3 * (J 87 b).toNat + i < 480 by omega) (by decide) dX6_heardAt_35 ?_
    refine z_callVi [.int (zI (J 84 (60 * b + 3 * (J 87 b).toNat + i)))] B lv_X6_68 (mX6_soundOf hG J (b := J 84 (60 * b + 3 * (J 87 b).toNat + i))) rfl (by decide) rfl rfl (Nat.le_of_ble_eq_true rfl) (by decide) (by decide) dX6_heardAt_36 (fun r2 J1 hJ1 => ?_)
    rw [show r2 = snd (J 77 0) (J 84 (60 * b + 3 * (J 87 b).toNat + i)) from hJ1.1, hJ1.2]
    refine z_ior B dX6_heardAt_39 ?_
    refine z_istore_n (fun v9 => [(0, .ref (gx_ad G 76)), (1, .int (zI (b : Int))), (2, .int (zI v9)), (3, .int (zI (i : Int)))]) B dX6_heardAt_40 rfl (by decide) rfl (fun _ => rfl) (fun v2 hv2 => ?_)
    rw [show v2 = orN (fun i => snd (J 77 0) (J 84 (60 * b + 3 * (J 87 b).toNat + i))) (i + 1) from (by rw [hv2]; rfl)]
    refine z_iinc (fun v9 => [(0, .ref (gx_ad G 76)), (1, .int (zI (b : Int))), (2, .int (zI (orN (fun i => snd (J 77 0) (J 84 (60 * b + 3 * (J 87 b).toNat + i))) (i + 1)))), (3, .int (zI v9))]) B dX6_heardAt_41 rfl (by decide) rfl (fun _ => rfl) (fun v3 hv3 => ?_)
    rw [show v3 = ((i + 1 : Nat) : Int) from (by omega)]
    refine gx_goto (tgt := 4) B dX6_heardAt_44 (by decide) ?_
    exact ih (by omega)

theorem mX6_heardAt {l : Launch} {G : gx_G} (hG : gx_OK G 91) (J : zJ) {b : Nat} (hb : b < 8) (hs0 : 0 ≤ J 82 b) (hs1 : J 82 b ≤ 3) (hc0 : 0 ≤ J 87 b) (hc1 : J 87 b < 20) : zMi l G yX6_heardAt cX6_heardAt 4 .int rmX6_heardAt [.ref (gx_ad G 76), .int (zI (b : Int))] J (fun r J' => r = mnt J b ∧ J' = J) := by
  refine gx_mi hG (by decide) (Nat.le_of_ble_eq_true rfl) (fun X hla B Rt => ?_)
  subst hla
  have B : gx_B G X RX6 cX6_heardAt 4 rmX6_heardAt 91 := B
  show gx_WG G X 4 (zh J) 0 [(0, .ref (gx_ad G 76)), (1, .int (zI (b : Int)))] []
  refine z_iconst B dX6_heardAt_0 ?_
  refine z_istore_n (fun v9 => [(0, .ref (gx_ad G 76)), (1, .int (zI (b : Int))), (2, .int (zI v9))]) B dX6_heardAt_1 rfl (by decide) rfl (fun _ => rfl) (fun v2 hv2 => ?_)
  rw [show v2 = orN (fun i => snd (J 77 0) (J 84 (60 * b + 3 * (J 87 b).toNat + i))) 0 from (by rw [hv2]; rfl)]
  refine z_iconst B dX6_heardAt_2 ?_
  refine z_istore_n (fun v9 => [(0, .ref (gx_ad G 76)), (1, .int (zI (b : Int))), (2, .int (zI (orN (fun i => snd (J 77 0) (J 84 (60 * b + 3 * (J 87 b).toNat + i))) 0))), (3, .int (zI v9))]) B dX6_heardAt_3 rfl (by decide) rfl (fun _ => rfl) (fun v3 hv3 => ?_)
  rw [show v3 = ((0 : Nat) : Int) from (by omega)]
  exact lpHrd hG B hb hs0 hs1 hc0 hc1 Rt 0 (by omega)

