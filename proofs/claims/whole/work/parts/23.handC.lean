
def orN (f : Nat → Int) : Nat → Int
  | 0 => 0
  | n + 1 => zor (orN f n) (f n)
def sumN (f : Nat → Int) : Nat → Int
  | 0 => 0
  | n + 1 => sumN f n + f n
theorem sumN_le {f : Nat → Int} {b : Int} (hb : 0 ≤ b) : ∀ {n : Nat}, (∀ k, k < n → 0 ≤ f k ∧ f k ≤ b) → 0 ≤ sumN f n ∧ sumN f n ≤ b * n
  | 0, _ => by simp [sumN]
  | n + 1, h => by
    have h1 := sumN_le hb (n := n) (fun k hk => h k (by omega))
    have h2 := h n (by omega)
    unfold sumN
    rw [show b * ((n + 1 : Nat) : Int) = b * n + b by push_cast; rw [Int.mul_add]; omega]
    omega
/-- the sound of the chosen setting of a beat -/
def hnt (J : zJ) (a b : Nat) : Int := orN (fun i => J (a + 2) (digZ (J (a + 15 + 2 * b) 2) (J (a + 15 + 2 * b + 1) (hch J a b)) i).toNat) (J (a + 15 + 2 * b) 2).toNat

theorem lpNts {G : gx_G} {X : gx_X} (hG : gx_OK G 76) (B : gx_B G X RX4 cX4_notesOf 4 rmX4_notesOf 76) {a b : Nat} (ha : isHand a) {J : zJ} (hb : b < 8) (hs0 : 0 ≤ J (a + 15 + 2 * b) 2) (hs1 : J (a + 15 + 2 * b) 2 ≤ 3) (hc0 : 0 ≤ J (a + 5) b) (hc1 : J (a + 5) b < 20) (hd : ∀ i : Nat, (i : Int) < J (a + 15 + 2 * b) 2 → digZ (J (a + 15 + 2 * b) 2) (J (a + 15 + 2 * b + 1) (hch J a b)) i ≤ 71) (Rt : gx_Ri G X .int (zpi (fun r J' => r = hnt J a b ∧ J' = J))) : ∀ i : Nat, i ≤ (J (a + 15 + 2 * b) 2).toNat → gx_WG G X 4 (zh J) 4 [(0, .ref (gx_ad G a)), (1, .int (zI (b : Int))), (2, .int (zI (orN (fun i => J (a + 2) (digZ (J (a + 15 + 2 * b) 2) (J (a + 15 + 2 * b + 1) (hch J a b)) i).toNat) i))), (3, .int (zI (i : Int)))] [] := by
  refine up_ind (fun i hi ih => ?_)
  refine gx_iload_n B dX4_notesOf_4 rfl rfl ?_
  refine gx_aload_n B dX4_notesOf_5 rfl rfl ?_
  refine gx_getr (t := (a + 4)) B fl_X4_20 (kHand ha) (bHand ha) (rHand1 ha) dX4_notesOf_6 ?_
  refine gx_iload_n B dX4_notesOf_9 rfl rfl ?_
  refine z_aald b (a + 15 + 2 * b) B (kHg ha) (cHg ha) rfl hb (by decide) (rHg ha hb) dX4_notesOf_10 ?_
  refine z_geti B fl_X4_61 (kGoods (gdH ha hb)) (bGoods (gdH ha hb)) (zGoods2 (gdH ha hb)) dX4_notesOf_11 ?_
  refine z_icmp_ge (tgt := 50) B dX4_notesOf_14 ⟨by omega, by omega⟩ ⟨by omega, by omega⟩ (by decide) (fun c14 => ?_) (fun c14 => ?_)
  · refine gx_iload_n B dX4_notesOf_50 rfl rfl ?_
    refine z_ireti B Rt dX4_notesOf_51 ?_
    refine ⟨?_, rfl⟩
    unfold hnt
    rw [show i = (J (a + 15 + 2 * b) 2).toNat by omega]
  · refine gx_iload_n B dX4_notesOf_17 rfl rfl ?_
    refine gx_aload_n B dX4_notesOf_18 rfl rfl ?_
    refine gx_getr (t := (a + 1)) B fl_X4_12 (kHand ha) (bHand ha) (rHand0 ha) dX4_notesOf_19 ?_
    refine gx_getr (t := ((a + 1) + 1)) B fl_X4_91 (kBoard (bdH ha)) (bBoard (bdH ha)) (rBoard0 (bdH ha)) dX4_notesOf_22 ?_
    refine gx_aload_n B dX4_notesOf_25 rfl rfl ?_
    refine gx_getr (t := (a + 4)) B fl_X4_20 (kHand ha) (bHand ha) (rHand1 ha) dX4_notesOf_26 ?_
    refine gx_iload_n B dX4_notesOf_29 rfl rfl ?_
    refine z_aald b (a + 15 + 2 * b) B (kHg ha) (cHg ha) rfl hb (by decide) (rHg ha hb) dX4_notesOf_30 ?_
    refine gx_aload_n B dX4_notesOf_31 rfl rfl ?_
    refine gx_getr (t := (a + 5)) B fl_X4_24 (kHand ha) (bHand ha) (rHand2 ha) dX4_notesOf_32 ?_
    refine gx_iload_n B dX4_notesOf_35 rfl rfl ?_
    refine z_iald b B (kHc ha) (cHc ha) rfl hb (by decide) dX4_notesOf_36 ?_
    rw [show J (a + 5) b = (hch J a b : Int) from (by unfold hch; omega)]
    refine gx_iload_n B dX4_notesOf_37 rfl rfl ?_
    have hdi := hd i (by omega)
    have hd0 := dig_le (J (a + 15 + 2 * b) 2) (J (a + 15 + 2 * b + 1) (hch J a b)) i
    refine z_callVi [.int (zI (hch J a b : Int)), .int (zI (i : Int))] B lv_X4_94 (mX3_buttonAt hG (gdH ha hb) J (k := hch J a b) (by unfold hch; omega) (i := (i : Int))) (kGoods (gdH ha hb)) (bGoods (gdH ha hb)) rfl rfl (Nat.le_of_ble_eq_true rfl) (by decide) (by decide) dX4_notesOf_38 (fun r2 J1 hJ1 => ?_)
    rw [show r2 = digZ (J (a + 15 + 2 * b) 2) (J (a + 15 + 2 * b + 1) (hch J a b)) i from hJ1.1, hJ1.2]
    refine z_iald ((digZ (J (a + 15 + 2 * b) 2) (J (a + 15 + 2 * b + 1) (hch J a b)) i).toNat) B (aBoard1 (bdH ha)) (cBoard1 (bdH ha)) (by omega) (by omega) (by decide) dX4_notesOf_41 ?_
    refine z_ior B dX4_notesOf_42 ?_
    refine z_istore_n (fun v9 => [(0, .ref (gx_ad G a)), (1, .int (zI (b : Int))), (2, .int (zI v9)), (3, .int (zI (i : Int)))]) B dX4_notesOf_43 rfl (by decide) rfl (fun _ => rfl) (fun v2 hv2 => ?_)
    rw [show v2 = orN (fun i => J (a + 2) (digZ (J (a + 15 + 2 * b) 2) (J (a + 15 + 2 * b + 1) (hch J a b)) i).toNat) (i + 1) from (by rw [hv2]; rfl)]
    refine z_iinc (fun v9 => [(0, .ref (gx_ad G a)), (1, .int (zI (b : Int))), (2, .int (zI (orN (fun i => J (a + 2) (digZ (J (a + 15 + 2 * b) 2) (J (a + 15 + 2 * b + 1) (hch J a b)) i).toNat) (i + 1)))), (3, .int (zI v9))]) B dX4_notesOf_44 rfl (by decide) rfl (fun _ => rfl) (fun v3 hv3 => ?_)
    rw [show v3 = ((i + 1 : Nat) : Int) from (by omega)]
    refine gx_goto (tgt := 4) B dX4_notesOf_47 (by decide) ?_
    exact ih (by omega)

theorem mX4_notesOf {l : Launch} {G : gx_G} (hG : gx_OK G 76) {a b : Nat} (ha : isHand a) (J : zJ) (hb : b < 8) (hs0 : 0 ≤ J (a + 15 + 2 * b) 2) (hs1 : J (a + 15 + 2 * b) 2 ≤ 3) (hc0 : 0 ≤ J (a + 5) b) (hc1 : J (a + 5) b < 20) (hd : ∀ i : Nat, (i : Int) < J (a + 15 + 2 * b) 2 → digZ (J (a + 15 + 2 * b) 2) (J (a + 15 + 2 * b + 1) (hch J a b)) i ≤ 71) : zMi l G yX4_notesOf cX4_notesOf 4 .int rmX4_notesOf [.ref (gx_ad G a), .int (zI (b : Int))] J (fun r J' => r = hnt J a b ∧ J' = J) := by
  refine gx_mi hG (by decide) (Nat.le_of_ble_eq_true rfl) (fun X hla B Rt => ?_)
  subst hla
  have B : gx_B G X RX4 cX4_notesOf 4 rmX4_notesOf 76 := B
  show gx_WG G X 4 (zh J) 0 [(0, .ref (gx_ad G a)), (1, .int (zI (b : Int)))] []
  refine z_iconst B dX4_notesOf_0 ?_
  refine z_istore_n (fun v9 => [(0, .ref (gx_ad G a)), (1, .int (zI (b : Int))), (2, .int (zI v9))]) B dX4_notesOf_1 rfl (by decide) rfl (fun _ => rfl) (fun v2 hv2 => ?_)
  rw [show v2 = orN (fun i => J (a + 2) (digZ (J (a + 15 + 2 * b) 2) (J (a + 15 + 2 * b + 1) (hch J a b)) i).toNat) 0 from (by rw [hv2]; rfl)]
  refine z_iconst B dX4_notesOf_2 ?_
  refine z_istore_n (fun v9 => [(0, .ref (gx_ad G a)), (1, .int (zI (b : Int))), (2, .int (zI (orN (fun i => J (a + 2) (digZ (J (a + 15 + 2 * b) 2) (J (a + 15 + 2 * b + 1) (hch J a b)) i).toNat) 0))), (3, .int (zI v9))]) B dX4_notesOf_3 rfl (by decide) rfl (fun _ => rfl) (fun v3 hv3 => ?_)
  rw [show v3 = ((0 : Nat) : Int) from (by omega)]
  exact lpNts hG B ha hb hs0 hs1 hc0 hc1 hd Rt 0 (by omega)

theorem mX4_hasSameButtons {l : Launch} {G : gx_G} (hG : gx_OK G 76) {a c b : Nat} (ha : isHand a) (hc : isHand c) (J : zJ) (hb : b < 8) (z1 : (zB (J (a + 15 + 2 * b) 2))) (z2 : (zB (J (c + 15 + 2 * b) 2))) (y1 : (0 ≤ J (a + 5) b ∧ J (a + 5) b < 20)) (y2 : (0 ≤ J (c + 5) b ∧ J (c + 5) b < 20)) (x1 : zB (J (a + 15 + 2 * b + 1) (hch J a b))) (x2 : zB (J (c + 15 + 2 * b + 1) (hch J c b))) : zMi l G yX4_hasSameButtons cX4_hasSameButtons 3 .boolean rmX4_hasSameButtons [.ref (gx_ad G a), .ref (gx_ad G c), .int (zI (b : Int))] J (fun r J' => r = bz (J (a + 15 + 2 * b) 2 = J (c + 15 + 2 * b) 2 ∧ J (a + 15 + 2 * b + 1) (hch J a b) = J (c + 15 + 2 * b + 1) (hch J c b)) ∧ J' = J) := by
  refine gx_mi hG (by decide) (Nat.le_of_ble_eq_true rfl) (fun X hla B Rt => ?_)
  subst hla
  have B : gx_B G X RX4 cX4_hasSameButtons 3 rmX4_hasSameButtons 76 := B
  show gx_WG G X 3 (zh J) 0 [(0, .ref (gx_ad G a)), (1, .ref (gx_ad G c)), (2, .int (zI (b : Int)))] []
  refine gx_aload_n B dX4_hasSameButtons_0 rfl rfl ?_
  refine gx_getr (t := (a + 4)) B fl_X4_20 (kHand ha) (bHand ha) (rHand1 ha) dX4_hasSameButtons_1 ?_
  refine gx_iload_n B dX4_hasSameButtons_4 rfl rfl ?_
  refine z_aald b (a + 15 + 2 * b) B (kHg ha) (cHg ha) rfl hb (by decide) (rHg ha hb) dX4_hasSameButtons_5 ?_
  refine z_geti B fl_X4_61 (kGoods (gdH ha hb)) (bGoods (gdH ha hb)) (zGoods2 (gdH ha hb)) dX4_hasSameButtons_6 ?_
  refine gx_aload_n B dX4_hasSameButtons_9 rfl rfl ?_
  refine gx_getr (t := (c + 4)) B fl_X4_20 (kHand hc) (bHand hc) (rHand1 hc) dX4_hasSameButtons_10 ?_
  refine gx_iload_n B dX4_hasSameButtons_13 rfl rfl ?_
  refine z_aald b (c + 15 + 2 * b) B (kHg hc) (cHg hc) rfl hb (by decide) (rHg hc hb) dX4_hasSameButtons_14 ?_
  refine z_geti B fl_X4_61 (kGoods (gdH hc hb)) (bGoods (gdH hc hb)) (zGoods2 (gdH hc hb)) dX4_hasSameButtons_15 ?_
  refine z_icmp_ne (tgt := 60) B dX4_hasSameButtons_18 z1 z2 (by decide) (fun c18 => ?_) (fun c18 => ?_)
  · refine z_iconst B dX4_hasSameButtons_60 ?_
    refine z_iretz B Rt dX4_hasSameButtons_61 (by decide) ?_
    exact ⟨by first | exact (bz_1.mpr ⟨c18, c53⟩).symm | exact (bz_0.mpr (fun q => c53 q.2)).symm | exact (bz_0.mpr (fun q => c18 q.1)).symm, rfl⟩
  · refine gx_aload_n B dX4_hasSameButtons_21 rfl rfl ?_
    refine gx_getr (t := (a + 4)) B fl_X4_20 (kHand ha) (bHand ha) (rHand1 ha) dX4_hasSameButtons_22 ?_
    refine gx_iload_n B dX4_hasSameButtons_25 rfl rfl ?_
    refine z_aald b (a + 15 + 2 * b) B (kHg ha) (cHg ha) rfl (by omega) (by decide) (rHg ha (by omega)) dX4_hasSameButtons_26 ?_
    refine gx_getr (t := ((a + 15 + 2 * b) + 1)) B fl_X4_97 (kGoods (gdH ha (show b < 8 by omega))) (bGoods (gdH ha (show b < 8 by omega))) (rGoods0 (gdH ha (show b < 8 by omega))) dX4_hasSameButtons_27 ?_
    refine gx_aload_n B dX4_hasSameButtons_30 rfl rfl ?_
    refine gx_getr (t := (a + 5)) B fl_X4_24 (kHand ha) (bHand ha) (rHand2 ha) dX4_hasSameButtons_31 ?_
    refine gx_iload_n B dX4_hasSameButtons_34 rfl rfl ?_
    refine z_iald b B (kHc ha) (cHc ha) rfl hb (by decide) dX4_hasSameButtons_35 ?_
    rw [show J (a + 5) b = (hch J a b : Int) from (by unfold hch; omega)]
    refine z_iald (hch J a b) B (aGoods (gdH ha (show b < 8 by omega))) (cGoods (gdH ha (show b < 8 by omega))) rfl (show hch J a b < 20 by unfold hch; omega) (by decide) dX4_hasSameButtons_36 ?_
    refine gx_aload_n B dX4_hasSameButtons_37 rfl rfl ?_
    refine gx_getr (t := (c + 4)) B fl_X4_20 (kHand hc) (bHand hc) (rHand1 hc) dX4_hasSameButtons_38 ?_
    refine gx_iload_n B dX4_hasSameButtons_41 rfl rfl ?_
    refine z_aald b (c + 15 + 2 * b) B (kHg hc) (cHg hc) rfl (by omega) (by decide) (rHg hc (by omega)) dX4_hasSameButtons_42 ?_
    refine gx_getr (t := ((c + 15 + 2 * b) + 1)) B fl_X4_97 (kGoods (gdH hc (show b < 8 by omega))) (bGoods (gdH hc (show b < 8 by omega))) (rGoods0 (gdH hc (show b < 8 by omega))) dX4_hasSameButtons_43 ?_
    refine gx_aload_n B dX4_hasSameButtons_46 rfl rfl ?_
    refine gx_getr (t := (c + 5)) B fl_X4_24 (kHand hc) (bHand hc) (rHand2 hc) dX4_hasSameButtons_47 ?_
    refine gx_iload_n B dX4_hasSameButtons_50 rfl rfl ?_
    refine z_iald b B (kHc hc) (cHc hc) rfl hb (by decide) dX4_hasSameButtons_51 ?_
    rw [show J (c + 5) b = (hch J c b : Int) from (by unfold hch; omega)]
    refine z_iald (hch J c b) B (aGoods (gdH hc (show b < 8 by omega))) (cGoods (gdH hc (show b < 8 by omega))) rfl (show hch J c b < 20 by unfold hch; omega) (by decide) dX4_hasSameButtons_52 ?_
    refine z_icmp_ne (tgt := 60) B dX4_hasSameButtons_53 x1 x2 (by decide) (fun c53 => ?_) (fun c53 => ?_)
    · refine z_iconst B dX4_hasSameButtons_60 ?_
      refine z_iretz B Rt dX4_hasSameButtons_61 (by decide) ?_
      exact ⟨by first | exact (bz_1.mpr ⟨c18, c53⟩).symm | exact (bz_0.mpr (fun q => c53 q.2)).symm | exact (bz_0.mpr (fun q => c18 q.1)).symm, rfl⟩
    · refine z_iconst B dX4_hasSameButtons_56 ?_
      refine gx_goto (tgt := 61) B dX4_hasSameButtons_57 (by decide) ?_
      refine z_iretz B Rt dX4_hasSameButtons_61 (by decide) ?_
      exact ⟨by first | exact (bz_1.mpr ⟨c18, c53⟩).symm | exact (bz_0.mpr (fun q => c53 q.2)).symm | exact (bz_0.mpr (fun q => c18 q.1)).symm, rfl⟩

theorem lplackOfAll {G : gx_G} {X : gx_X} (hG : gx_OK G 76) (B : gx_B G X RX4 cX4_lackOfAll 4 rmX4_lackOfAll 76) {a n : Nat} (ha : isHand a) {J : zJ} (hn : n ≤ 8) (Rt : gx_Ri G X .int (zpi (fun r J' => r = sumN (fun b => J (a + 15 + 2 * b) 3) n ∧ J' = J))) : ∀ i : Nat, i ≤ n → gx_WG G X 4 (zh J) 4 [(0, .ref (gx_ad G a)), (1, .int (zI (n : Int))), (2, .int (zI (sumN (fun b => J (a + 15 + 2 * b) 3) i))), (3, .int (zI (i : Int)))] [] := by
  refine up_ind (fun i hi ih => ?_)
  refine gx_iload_n B dX4_lackOfAll_4 rfl rfl ?_
  refine gx_iload_n B dX4_lackOfAll_5 rfl rfl ?_
  refine z_icmp_ge (tgt := 27) B dX4_lackOfAll_6 ⟨by omega, by omega⟩ ⟨by omega, by omega⟩ (by decide) (fun c6 => ?_) (fun c6 => ?_)
  · refine gx_iload_n B dX4_lackOfAll_27 rfl rfl ?_
    refine z_ireti B Rt dX4_lackOfAll_28 ?_
    refine ⟨?_, rfl⟩
    rw [show i = n by omega]
  · refine gx_iload_n B dX4_lackOfAll_9 rfl rfl ?_
    refine gx_aload_n B dX4_lackOfAll_10 rfl rfl ?_
    refine gx_getr (t := (a + 4)) B fl_X4_20 (kHand ha) (bHand ha) (rHand1 ha) dX4_lackOfAll_11 ?_
    refine gx_iload_n B dX4_lackOfAll_14 rfl rfl ?_
    refine z_aald i (a + 15 + 2 * i) B (kHg ha) (cHg ha) rfl (show i < 8 by omega) (by decide) (rHg ha (show i < 8 by omega)) dX4_lackOfAll_15 ?_
    refine z_geti B fl_X4_100 (kGoods (gdH ha (show i < 8 by omega))) (bGoods (gdH ha (show i < 8 by omega))) (zGoods3 (gdH ha (show i < 8 by omega))) dX4_lackOfAll_16 ?_
    refine z_iadd B dX4_lackOfAll_19 ?_
    refine z_istore_n (fun v9 => [(0, .ref (gx_ad G a)), (1, .int (zI (n : Int))), (2, .int (zI v9)), (3, .int (zI (i : Int)))]) B dX4_lackOfAll_20 rfl (by decide) rfl (fun _ => rfl) (fun v2 hv2 => ?_)
    rw [show v2 = sumN (fun b => J (a + 15 + 2 * b) 3) (i + 1) from (by rw [hv2]; rfl)]
    refine z_iinc (fun v9 => [(0, .ref (gx_ad G a)), (1, .int (zI (n : Int))), (2, .int (zI (sumN (fun b => J (a + 15 + 2 * b) 3) (i + 1)))), (3, .int (zI v9))]) B dX4_lackOfAll_21 rfl (by decide) rfl (fun _ => rfl) (fun v3 hv3 => ?_)
    rw [show v3 = ((i + 1 : Nat) : Int) from (by omega)]
    refine gx_goto (tgt := 4) B dX4_lackOfAll_24 (by decide) ?_
    exact ih (by omega)

theorem mX4_lackOfAll {l : Launch} {G : gx_G} (hG : gx_OK G 76) {a n : Nat} (ha : isHand a) (J : zJ) (hn : n ≤ 8) : zMi l G yX4_lackOfAll cX4_lackOfAll 4 .int rmX4_lackOfAll [.ref (gx_ad G a), .int (zI (n : Int))] J (fun r J' => r = sumN (fun b => J (a + 15 + 2 * b) 3) n ∧ J' = J) := by
  refine gx_mi hG (by decide) (Nat.le_of_ble_eq_true rfl) (fun X hla B Rt => ?_)
  subst hla
  have B : gx_B G X RX4 cX4_lackOfAll 4 rmX4_lackOfAll 76 := B
  show gx_WG G X 4 (zh J) 0 [(0, .ref (gx_ad G a)), (1, .int (zI (n : Int)))] []
  refine z_iconst B dX4_lackOfAll_0 ?_
  refine z_istore_n (fun v9 => [(0, .ref (gx_ad G a)), (1, .int (zI (n : Int))), (2, .int (zI v9))]) B dX4_lackOfAll_1 rfl (by decide) rfl (fun _ => rfl) (fun v2 hv2 => ?_)
  rw [show v2 = sumN (fun b => J (a + 15 + 2 * b) 3) 0 from (by rw [hv2]; rfl)]
  refine z_iconst B dX4_lackOfAll_2 ?_
  refine z_istore_n (fun v9 => [(0, .ref (gx_ad G a)), (1, .int (zI (n : Int))), (2, .int (zI (sumN (fun b => J (a + 15 + 2 * b) 3) 0))), (3, .int (zI v9))]) B dX4_lackOfAll_3 rfl (by decide) rfl (fun _ => rfl) (fun v3 hv3 => ?_)
  rw [show v3 = ((0 : Nat) : Int) from (by omega)]
  exact lplackOfAll hG B ha hn Rt 0 (by omega)

theorem lpextraOfAll {G : gx_G} {X : gx_X} (hG : gx_OK G 76) (B : gx_B G X RX4 cX4_extraOfAll 4 rmX4_extraOfAll 76) {a n : Nat} (ha : isHand a) {J : zJ} (hn : n ≤ 8) (Rt : gx_Ri G X .int (zpi (fun r J' => r = sumN (fun b => J (a + 15 + 2 * b) 4) n ∧ J' = J))) : ∀ i : Nat, i ≤ n → gx_WG G X 4 (zh J) 4 [(0, .ref (gx_ad G a)), (1, .int (zI (n : Int))), (2, .int (zI (sumN (fun b => J (a + 15 + 2 * b) 4) i))), (3, .int (zI (i : Int)))] [] := by
  refine up_ind (fun i hi ih => ?_)
  refine gx_iload_n B dX4_extraOfAll_4 rfl rfl ?_
  refine gx_iload_n B dX4_extraOfAll_5 rfl rfl ?_
  refine z_icmp_ge (tgt := 27) B dX4_extraOfAll_6 ⟨by omega, by omega⟩ ⟨by omega, by omega⟩ (by decide) (fun c6 => ?_) (fun c6 => ?_)
  · refine gx_iload_n B dX4_extraOfAll_27 rfl rfl ?_
    refine z_ireti B Rt dX4_extraOfAll_28 ?_
    refine ⟨?_, rfl⟩
    rw [show i = n by omega]
  · refine gx_iload_n B dX4_extraOfAll_9 rfl rfl ?_
    refine gx_aload_n B dX4_extraOfAll_10 rfl rfl ?_
    refine gx_getr (t := (a + 4)) B fl_X4_20 (kHand ha) (bHand ha) (rHand1 ha) dX4_extraOfAll_11 ?_
    refine gx_iload_n B dX4_extraOfAll_14 rfl rfl ?_
    refine z_aald i (a + 15 + 2 * i) B (kHg ha) (cHg ha) rfl (show i < 8 by omega) (by decide) (rHg ha (show i < 8 by omega)) dX4_extraOfAll_15 ?_
    refine z_geti B fl_X4_103 (kGoods (gdH ha (show i < 8 by omega))) (bGoods (gdH ha (show i < 8 by omega))) (zGoods4 (gdH ha (show i < 8 by omega))) dX4_extraOfAll_16 ?_
    refine z_iadd B dX4_extraOfAll_19 ?_
    refine z_istore_n (fun v9 => [(0, .ref (gx_ad G a)), (1, .int (zI (n : Int))), (2, .int (zI v9)), (3, .int (zI (i : Int)))]) B dX4_extraOfAll_20 rfl (by decide) rfl (fun _ => rfl) (fun v2 hv2 => ?_)
    rw [show v2 = sumN (fun b => J (a + 15 + 2 * b) 4) (i + 1) from (by rw [hv2]; rfl)]
    refine z_iinc (fun v9 => [(0, .ref (gx_ad G a)), (1, .int (zI (n : Int))), (2, .int (zI (sumN (fun b => J (a + 15 + 2 * b) 4) (i + 1)))), (3, .int (zI v9))]) B dX4_extraOfAll_21 rfl (by decide) rfl (fun _ => rfl) (fun v3 hv3 => ?_)
    rw [show v3 = ((i + 1 : Nat) : Int) from (by omega)]
    refine gx_goto (tgt := 4) B dX4_extraOfAll_24 (by decide) ?_
    exact ih (by omega)

theorem mX4_extraOfAll {l : Launch} {G : gx_G} (hG : gx_OK G 76) {a n : Nat} (ha : isHand a) (J : zJ) (hn : n ≤ 8) : zMi l G yX4_extraOfAll cX4_extraOfAll 4 .int rmX4_extraOfAll [.ref (gx_ad G a), .int (zI (n : Int))] J (fun r J' => r = sumN (fun b => J (a + 15 + 2 * b) 4) n ∧ J' = J) := by
  refine gx_mi hG (by decide) (Nat.le_of_ble_eq_true rfl) (fun X hla B Rt => ?_)
  subst hla
  have B : gx_B G X RX4 cX4_extraOfAll 4 rmX4_extraOfAll 76 := B
  show gx_WG G X 4 (zh J) 0 [(0, .ref (gx_ad G a)), (1, .int (zI (n : Int)))] []
  refine z_iconst B dX4_extraOfAll_0 ?_
  refine z_istore_n (fun v9 => [(0, .ref (gx_ad G a)), (1, .int (zI (n : Int))), (2, .int (zI v9))]) B dX4_extraOfAll_1 rfl (by decide) rfl (fun _ => rfl) (fun v2 hv2 => ?_)
  rw [show v2 = sumN (fun b => J (a + 15 + 2 * b) 4) 0 from (by rw [hv2]; rfl)]
  refine z_iconst B dX4_extraOfAll_2 ?_
  refine z_istore_n (fun v9 => [(0, .ref (gx_ad G a)), (1, .int (zI (n : Int))), (2, .int (zI (sumN (fun b => J (a + 15 + 2 * b) 4) 0))), (3, .int (zI v9))]) B dX4_extraOfAll_3 rfl (by decide) rfl (fun _ => rfl) (fun v3 hv3 => ?_)
  rw [show v3 = ((0 : Nat) : Int) from (by omega)]
  exact lpextraOfAll hG B ha hn Rt 0 (by omega)

theorem lpbuttonsOfAll {G : gx_G} {X : gx_X} (hG : gx_OK G 76) (B : gx_B G X RX4 cX4_buttonsOfAll 4 rmX4_buttonsOfAll 76) {a n : Nat} (ha : isHand a) {J : zJ} (hn : n ≤ 8) (Rt : gx_Ri G X .int (zpi (fun r J' => r = sumN (fun b => J (a + 15 + 2 * b) 2) n ∧ J' = J))) : ∀ i : Nat, i ≤ n → gx_WG G X 4 (zh J) 4 [(0, .ref (gx_ad G a)), (1, .int (zI (n : Int))), (2, .int (zI (sumN (fun b => J (a + 15 + 2 * b) 2) i))), (3, .int (zI (i : Int)))] [] := by
  refine up_ind (fun i hi ih => ?_)
  refine gx_iload_n B dX4_buttonsOfAll_4 rfl rfl ?_
  refine gx_iload_n B dX4_buttonsOfAll_5 rfl rfl ?_
  refine z_icmp_ge (tgt := 27) B dX4_buttonsOfAll_6 ⟨by omega, by omega⟩ ⟨by omega, by omega⟩ (by decide) (fun c6 => ?_) (fun c6 => ?_)
  · refine gx_iload_n B dX4_buttonsOfAll_27 rfl rfl ?_
    refine z_ireti B Rt dX4_buttonsOfAll_28 ?_
    refine ⟨?_, rfl⟩
    rw [show i = n by omega]
  · refine gx_iload_n B dX4_buttonsOfAll_9 rfl rfl ?_
    refine gx_aload_n B dX4_buttonsOfAll_10 rfl rfl ?_
    refine gx_getr (t := (a + 4)) B fl_X4_20 (kHand ha) (bHand ha) (rHand1 ha) dX4_buttonsOfAll_11 ?_
    refine gx_iload_n B dX4_buttonsOfAll_14 rfl rfl ?_
    refine z_aald i (a + 15 + 2 * i) B (kHg ha) (cHg ha) rfl (show i < 8 by omega) (by decide) (rHg ha (show i < 8 by omega)) dX4_buttonsOfAll_15 ?_
    refine z_geti B fl_X4_61 (kGoods (gdH ha (show i < 8 by omega))) (bGoods (gdH ha (show i < 8 by omega))) (zGoods2 (gdH ha (show i < 8 by omega))) dX4_buttonsOfAll_16 ?_
    refine z_iadd B dX4_buttonsOfAll_19 ?_
    refine z_istore_n (fun v9 => [(0, .ref (gx_ad G a)), (1, .int (zI (n : Int))), (2, .int (zI v9)), (3, .int (zI (i : Int)))]) B dX4_buttonsOfAll_20 rfl (by decide) rfl (fun _ => rfl) (fun v2 hv2 => ?_)
    rw [show v2 = sumN (fun b => J (a + 15 + 2 * b) 2) (i + 1) from (by rw [hv2]; rfl)]
    refine z_iinc (fun v9 => [(0, .ref (gx_ad G a)), (1, .int (zI (n : Int))), (2, .int (zI (sumN (fun b => J (a + 15 + 2 * b) 2) (i + 1)))), (3, .int (zI v9))]) B dX4_buttonsOfAll_21 rfl (by decide) rfl (fun _ => rfl) (fun v3 hv3 => ?_)
    rw [show v3 = ((i + 1 : Nat) : Int) from (by omega)]
    refine gx_goto (tgt := 4) B dX4_buttonsOfAll_24 (by decide) ?_
    exact ih (by omega)

theorem mX4_buttonsOfAll {l : Launch} {G : gx_G} (hG : gx_OK G 76) {a n : Nat} (ha : isHand a) (J : zJ) (hn : n ≤ 8) : zMi l G yX4_buttonsOfAll cX4_buttonsOfAll 4 .int rmX4_buttonsOfAll [.ref (gx_ad G a), .int (zI (n : Int))] J (fun r J' => r = sumN (fun b => J (a + 15 + 2 * b) 2) n ∧ J' = J) := by
  refine gx_mi hG (by decide) (Nat.le_of_ble_eq_true rfl) (fun X hla B Rt => ?_)
  subst hla
  have B : gx_B G X RX4 cX4_buttonsOfAll 4 rmX4_buttonsOfAll 76 := B
  show gx_WG G X 4 (zh J) 0 [(0, .ref (gx_ad G a)), (1, .int (zI (n : Int)))] []
  refine z_iconst B dX4_buttonsOfAll_0 ?_
  refine z_istore_n (fun v9 => [(0, .ref (gx_ad G a)), (1, .int (zI (n : Int))), (2, .int (zI v9))]) B dX4_buttonsOfAll_1 rfl (by decide) rfl (fun _ => rfl) (fun v2 hv2 => ?_)
  rw [show v2 = sumN (fun b => J (a + 15 + 2 * b) 2) 0 from (by rw [hv2]; rfl)]
  refine z_iconst B dX4_buttonsOfAll_2 ?_
  refine z_istore_n (fun v9 => [(0, .ref (gx_ad G a)), (1, .int (zI (n : Int))), (2, .int (zI (sumN (fun b => J (a + 15 + 2 * b) 2) 0))), (3, .int (zI v9))]) B dX4_buttonsOfAll_3 rfl (by decide) rfl (fun _ => rfl) (fun v3 hv3 => ?_)
  rw [show v3 = ((0 : Nat) : Int) from (by omega)]
  exact lpbuttonsOfAll hG B ha hn Rt 0 (by omega)


/-- a desk's beats are as they may be -/
def DPre (J : zJ) (d n : Nat) : Prop := J d 5 = (n : Int) ∧ n ≤ 8 ∧ ∀ b, b < n → (0 ≤ J (d + 1) b ∧ J (d + 1) b ≤ 4095) ∧ (-1 ≤ J (d + 2) b ∧ J (d + 2) b ≤ 11)
/-- a hand has learned: its board, the good settings of the first n beats -/
def Lrn (J : zJ) (a : Nat) (base rows : Int) (n : Nat) (ch lo : Nat → Int) : Prop := Tuned J (a + 1) base rows ∧ ∀ b, b < n → GoodsAt J (a + 15 + 2 * b) (ch b) base rows (lo b)
abbrev NFr (J J' : zJ) (a : Nat) : Prop := ∀ x k, ¬ (a + 1 ≤ x ∧ x ≤ a + 3) → ¬ (a + 15 ≤ x ∧ x ≤ a + 30) → J' x k = J x k
theorem hd_ne {a d : Nat} (ha : isHand a) (hd : isDesk d) : d + 4 < a ∧ 0 < d := by
  rcases ha with rfl | rfl <;> rcases hd with rfl | rfl <;> omega
theorem GoodsAt.keep {J J' : zJ} {g : Nat} {w base rows low : Int} (h : GoodsAt J g w base rows low) (e : ∀ k, J' g k = J g k) (e1 : ∀ k, J' (g + 1) k = J (g + 1) k) : GoodsAt J' g w base rows low := by
  obtain ⟨⟨h1, h2⟩, h3, h4, h5⟩ := h
  exact ⟨⟨by rw [e]; exact h1, fun k hk => by rw [e1]; exact h2 k hk⟩, by rw [e]; exact h3, by rw [e]; exact h4, by rw [e]; exact h5⟩
theorem Tuned.keep {J J' : zJ} {d : Nat} {base rows : Int} (h : Tuned J d base rows) (e : J' d 2 = J d 2) (e1 : ∀ k, J' (d + 1) k = J (d + 1) k) (e2 : ∀ k, J' (d + 2) k = J (d + 2) k) : Tuned J' d base rows := by
  obtain ⟨h1, h2, h3⟩ := h
  exact ⟨fun a ha => by rw [e1]; exact h1 a ha, by rw [e]; exact h2, fun i hi => by rw [e2]; exact h3 i hi⟩

theorem lpLrn {G : gx_G} {X : gx_X} (hG : gx_OK G 76) (B : gx_B G X RX4 cX4_learn 5 rmX4_learn 76) {a d n : Nat} (ha : isHand a) (hdk : isDesk d) {J0 : zJ} {base rows : Int} (hb0 : 0 ≤ base) (hb1 : base < 12) (hD : DPre J0 d n) (Rt : gx_Rv G X (zpv (fun J' => Lrn J' a base rows n (J0 (d + 1)) (J0 (d + 2)) ∧ NFr J0 J' a))) : ∀ i : Nat, i ≤ n → ∀ (J : zJ), Lrn J a base rows i (J0 (d + 1)) (J0 (d + 2)) → NFr J0 J a → gx_WG G X 5 (zh J) 12 [(0, .ref (gx_ad G a)), (1, .int (zI base)), (2, .int (zI rows)), (3, .ref (gx_ad G d)), (4, .int (zI (i : Int)))] [] := by
  refine up_ind (fun i hi ih => ?_)
  intro J hL hfr
  have h8 := hD.2.1
  have hne := hd_ne ha hdk
  have e5 : J d 5 = (n : Int) := by rw [hfr _ _ (by omega) (by omega)]; exact hD.1
  have ec : ∀ k, J (d + 1) k = J0 (d + 1) k := fun k => hfr _ _ (by omega) (by omega)
  have el : ∀ k, J (d + 2) k = J0 (d + 2) k := fun k => hfr _ _ (by omega) (by omega)
  refine gx_iload B dX4_learn_12 rfl ?_
  refine gx_aload_n B dX4_learn_14 rfl rfl ?_
  refine z_geti B fl_X4_42 (kDesk hdk) (bDesk hdk) (zDesk5 hdk) dX4_learn_15 ?_
  refine z_icmp_ge (tgt := 55) B dX4_learn_18 ⟨by omega, by omega⟩ ⟨by omega, by omega⟩ (by decide) (fun c18 => ?_) (fun c18 => ?_)
  · refine z_ret B Rt dX4_learn_55 ?_
    obtain rfl : i = n := by omega
    exact ⟨hL, hfr⟩
  · have hdi : (0 ≤ J (d + 1) i ∧ J (d + 1) i ≤ 4095) ∧ (-1 ≤ J (d + 2) i ∧ J (d + 2) i ≤ 11) := by rw [ec, el]; exact hD.2.2 i (by omega)
    refine gx_aload_n B dX4_learn_21 rfl rfl ?_
    refine gx_getr (t := (a + 4)) B fl_X4_20 (kHand ha) (bHand ha) (rHand1 ha) dX4_learn_22 ?_
    refine gx_iload B dX4_learn_25 rfl ?_
    refine z_aald i (a + 15 + 2 * i) B (kHg ha) (cHg ha) rfl (show i < 8 by omega) (by decide) (rHg ha (show i < 8 by omega)) dX4_learn_27 ?_
    refine gx_aload_n B dX4_learn_28 rfl rfl ?_
    refine gx_getr (t := (a + 1)) B fl_X4_12 (kHand ha) (bHand ha) (rHand0 ha) dX4_learn_29 ?_
    refine gx_aload_n B dX4_learn_32 rfl rfl ?_
    refine gx_getr (t := (d + 1)) B fl_X4_47 (kDesk hdk) (bDesk hdk) (rDesk6 hdk) dX4_learn_33 ?_
    refine gx_iload B dX4_learn_36 rfl ?_
    refine z_iald i B (aDesk1 hdk) (cDesk1 hdk) rfl (show i < 8 by omega) (by decide) dX4_learn_38 ?_
    refine gx_aload_n B dX4_learn_39 rfl rfl ?_
    refine gx_getr (t := (d + 2)) B fl_X4_50 (kDesk hdk) (bDesk hdk) (rDesk7 hdk) dX4_learn_40 ?_
    refine gx_iload B dX4_learn_43 rfl ?_
    refine z_iald i B (aDesk2 hdk) (cDesk2 hdk) rfl (show i < 8 by omega) (by decide) dX4_learn_45 ?_
    refine z_callVv [.ref (gx_ad G (a + 1)), .int (zI (J (d + 1) i)), .int (zI (J (d + 2) i))] B lv_X4_53 (mX3_find hG (gdH ha (show i < 8 by omega)) (bdH ha) J (base := base) (rows := rows) (chord := J (d + 1) i) (low := J (d + 2) i) hb0 hb1 hdi.1.1 hdi.1.2 hdi.2.1 hdi.2.2 hL.1) (kGoods (gdH ha (show i < 8 by omega))) (bGoods (gdH ha (show i < 8 by omega))) rfl rfl (Nat.le_of_ble_eq_true rfl) (by decide) (by decide) dX4_learn_46 (fun J1 hJ1 => ?_)
    refine z_iinc (fun v9 => [(0, .ref (gx_ad G a)), (1, .int (zI base)), (2, .int (zI rows)), (3, .ref (gx_ad G d)), (4, .int (zI v9))]) B dX4_learn_49 rfl (by decide) rfl (fun _ => rfl) (fun v4 hv4 => ?_)
    rw [show v4 = ((i + 1 : Nat) : Int) from (by omega)]
    refine gx_goto (tgt := 12) B dX4_learn_52 (by decide) ?_
    refine ih (by omega) J1 ⟨hL.1.keep (hJ1.2 _ _ (by omega) (by omega)) (fun k => hJ1.2 _ _ (by omega) (by omega)) (fun k => hJ1.2 _ _ (by omega) (by omega)), fun b hb => ?_⟩ (fun x k h1 h2 => by rw [hJ1.2 x k (by omega) (by omega)]; exact hfr x k h1 h2)
    by_cases e : b = i
    · rw [e, ← ec, ← el]; exact hJ1.1
    · exact (hL.2 b (by omega)).keep (fun k => hJ1.2 _ _ (by omega) (by omega)) (fun k => hJ1.2 _ _ (by omega) (by omega))

theorem mX4_learn {l : Launch} {G : gx_G} (hG : gx_OK G 76) {a d n : Nat} (ha : isHand a) (hdk : isDesk d) (J : zJ) {base rows : Int} (hb0 : 0 ≤ base) (hb1 : base < 12) (hD : DPre J d n) : zMv l G yX4_learn cX4_learn 5 rmX4_learn [.ref (gx_ad G a), .int (zI base), .int (zI rows), .ref (gx_ad G d)] J (fun J' => Lrn J' a base rows n (J (d + 1)) (J (d + 2)) ∧ NFr J J' a) := by
  refine gx_mv hG (by decide) (Nat.le_of_ble_eq_true rfl) (fun X hla B Rt => ?_)
  subst hla
  have B : gx_B G X RX4 cX4_learn 5 rmX4_learn 76 := B
  show gx_WG G X 5 (zh J) 0 [(0, .ref (gx_ad G a)), (1, .int (zI base)), (2, .int (zI rows)), (3, .ref (gx_ad G d))] []
  refine gx_aload_n B dX4_learn_0 rfl rfl ?_
  refine gx_getr (t := (a + 1)) B fl_X4_12 (kHand ha) (bHand ha) (rHand0 ha) dX4_learn_1 ?_
  refine gx_iload_n B dX4_learn_4 rfl rfl ?_
  refine gx_iload_n B dX4_learn_5 rfl rfl ?_
  refine z_callVv [.int (zI base), .int (zI rows)] B lv_X4_37 (mX1_tune hG (bdH ha) J (base := base) (rows := rows) hb0 hb1) (kBoard (bdH ha)) (bBoard (bdH ha)) rfl rfl (Nat.le_of_ble_eq_true rfl) (by decide) (by decide) dX4_learn_6 (fun J1 hJ1 => ?_)
  refine z_iconst B dX4_learn_9 ?_
  refine z_istore (fun v9 => [(0, .ref (gx_ad G a)), (1, .int (zI base)), (2, .int (zI rows)), (3, .ref (gx_ad G d)), (4, .int (zI v9))]) B dX4_learn_10 (by decide) rfl (fun _ => rfl) (fun v4 hv4 => ?_)
  rw [show v4 = ((0 : Nat) : Int) from (by omega)]
  exact lpLrn hG B ha hdk hb0 hb1 hD Rt 0 (by omega) J1 ⟨hJ1.1, fun b hb => by omega⟩ (fun x k h1 h2 => hJ1.2 x k (by omega) (by omega) (by omega))

