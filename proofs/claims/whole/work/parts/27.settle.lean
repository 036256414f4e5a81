
def wrD (J : zJ) (d b : Nat) (c l n m : Int) : zJ := zup (zup (zup (zup J (d + 1) b c) (d + 2) b l) (d + 3) b n) (d + 4) b m
def cpyN (J : zJ) (d s i : Nat) : zJ := fun x k => if x = d ∧ k < 6 then J s k else if d + 1 ≤ x ∧ x ≤ d + 4 ∧ k < i then J (s + (x - d)) k else J x k
theorem cpy_step {J : zJ} {d s i : Nat} (hds : d + 4 < s ∨ s + 4 < d) : wrD (cpyN J d s i) d i (cpyN J d s i (s + 1) i) (cpyN J d s i (s + 2) i) (cpyN J d s i (s + 3) i) (cpyN J d s i (s + 4) i) = cpyN J d s (i + 1) := by
  have e : ∀ j, 1 ≤ j → j ≤ 4 → cpyN J d s i (s + j) i = J (s + j) i := fun j h1 h2 => by
    unfold cpyN
    rw [if_neg (by omega), if_neg (by omega)]
  rw [e 1 (by omega) (by omega), e 2 (by omega) (by omega), e 3 (by omega) (by omega), e 4 (by omega) (by omega)]
  funext x k
  unfold wrD
  by_cases h4 : x = d + 4 ∧ k = i
  · obtain ⟨rfl, rfl⟩ := h4
    rw [zup_self]
    unfold cpyN
    rw [if_neg (by omega), if_pos (by omega), show d + 4 - d = 4 by omega]
  · rw [zup_ne h4]
    by_cases h3 : x = d + 3 ∧ k = i
    · obtain ⟨rfl, rfl⟩ := h3
      rw [zup_self]
      unfold cpyN
      rw [if_neg (by omega), if_pos (by omega), show d + 3 - d = 3 by omega]
    · rw [zup_ne h3]
      by_cases h2 : x = d + 2 ∧ k = i
      · obtain ⟨rfl, rfl⟩ := h2
        rw [zup_self]
        unfold cpyN
        rw [if_neg (by omega), if_pos (by omega), show d + 2 - d = 2 by omega]
      · rw [zup_ne h2]
        by_cases h1 : x = d + 1 ∧ k = i
        · obtain ⟨rfl, rfl⟩ := h1
          rw [zup_self]
          unfold cpyN
          rw [if_neg (by omega), if_pos (by omega), show d + 1 - d = 1 by omega]
        · rw [zup_ne h1]
          unfold cpyN
          by_cases q : x = d ∧ k < 6
          · rw [if_pos q, if_pos q]
          · rw [if_neg q, if_neg q]
            by_cases q2 : d + 1 ≤ x ∧ x ≤ d + 4 ∧ k < i
            · rw [if_pos q2, if_pos (by omega)]
            · rw [if_neg q2, if_neg (by omega)]
theorem cpy_start {J : zJ} {d s : Nat} (hds : d + 4 < s ∨ s + 4 < d) : zup (zup (zup (zup (zup (zup J d 0 (J s 0)) d 1 (J s 1)) d 2 (J s 2)) d 3 (J s 3)) d 4 (J s 4)) d 5 (J s 5) = cpyN J d s 0 := by
  funext x k
  unfold cpyN
  by_cases q : x = d ∧ k < 6
  · obtain ⟨rfl, hk⟩ := q
    rw [if_pos ⟨rfl, hk⟩]
    have : k = 0 ∨ k = 1 ∨ k = 2 ∨ k = 3 ∨ k = 4 ∨ k = 5 := by omega
    rcases this with rfl | rfl | rfl | rfl | rfl | rfl <;> simp [zup]
  · rw [if_neg q, if_neg (by omega), zup_ne (by omega), zup_ne (by omega), zup_ne (by omega), zup_ne (by omega), zup_ne (by omega), zup_ne (by omega)]
theorem ds_ne {d s : Nat} (hd : isDesk d) (hs : isDesk s) (h : d ≠ s) : d + 4 < s ∨ s + 4 < d := by
  rcases hd with rfl | rfl <;> rcases hs with rfl | rfl <;> omega

theorem mX2_write {lx : Launch} {G : gx_G} (hG : gx_OK G 76) {d b : Nat} (hd : isDesk d) (J : zJ) (hb : b < 8) {c l n m : Int} : zMv lx G yX2_write cX2_write 6 rmX2_write [.ref (gx_ad G d), .int (zI (b : Int)), .int (zI c), .int (zI l), .int (zI n), .int (zI m)] J (fun J' => J' = wrD J d b c l n m) := by
  refine gx_mv hG (by decide) (Nat.le_of_ble_eq_true rfl) (fun X hla B Rt => ?_)
  subst hla
  have B : gx_B G X RX2 cX2_write 6 rmX2_write 76 := B
  show gx_WG G X 6 (zh J) 0 [(0, .ref (gx_ad G d)), (1, .int (zI (b : Int))), (2, .int (zI c)), (3, .int (zI l)), (4, .int (zI n)), (5, .int (zI m))] []
  refine gx_aload_n B dX2_write_0 rfl rfl ?_
  refine gx_getr (t := (d + 1)) B fl_X2_30 (kDesk hd) (bDesk hd) (rDesk6 hd) dX2_write_1 ?_
  refine gx_iload_n B dX2_write_4 rfl rfl ?_
  refine gx_iload_n B dX2_write_5 rfl rfl ?_
  refine z_iast b B (aDesk1 hd) (cDesk1 hd) rfl hb (by decide) dX2_write_6 (fun J1 hJ1 => ?_)
  refine gx_aload_n B dX2_write_7 rfl rfl ?_
  refine gx_getr (t := (d + 2)) B fl_X2_34 (kDesk hd) (bDesk hd) (rDesk7 hd) dX2_write_8 ?_
  refine gx_iload_n B dX2_write_11 rfl rfl ?_
  refine gx_iload_n B dX2_write_12 rfl rfl ?_
  refine z_iast b B (aDesk2 hd) (cDesk2 hd) rfl hb (by decide) dX2_write_13 (fun J2 hJ2 => ?_)
  refine gx_aload_n B dX2_write_14 rfl rfl ?_
  refine gx_getr (t := (d + 3)) B fl_X2_37 (kDesk hd) (bDesk hd) (rDesk8 hd) dX2_write_15 ?_
  refine gx_iload_n B dX2_write_18 rfl rfl ?_
  refine gx_iload B dX2_write_19 rfl ?_
  refine z_iast b B (aDesk3 hd) (cDesk3 hd) rfl hb (by decide) dX2_write_21 (fun J3 hJ3 => ?_)
  refine gx_aload_n B dX2_write_22 rfl rfl ?_
  refine gx_getr (t := (d + 4)) B fl_X2_40 (kDesk hd) (bDesk hd) (rDesk9 hd) dX2_write_23 ?_
  refine gx_iload_n B dX2_write_26 rfl rfl ?_
  refine gx_iload B dX2_write_27 rfl ?_
  refine z_iast b B (aDesk4 hd) (cDesk4 hd) rfl hb (by decide) dX2_write_29 (fun J4 hJ4 => ?_)
  refine z_ret B Rt dX2_write_30 ?_
  rw [hJ4, hJ3, hJ2, hJ1]
  rfl

theorem lpCpy {G : gx_G} {X : gx_X} (hG : gx_OK G 76) (B : gx_B G X RX2 cX2_copyFrom 3 rmX2_copyFrom 76) {d s : Nat} (hd : isDesk d) (hs : isDesk s) {J : zJ} (hds : d + 4 < s ∨ s + 4 < d) (Rt : gx_Rv G X (zpv (fun J' => J' = cpyN J d s 8))) : ∀ i : Nat, i ≤ 8 → gx_WG G X 3 (zh (cpyN J d s i)) 50 [(0, .ref (gx_ad G d)), (1, .ref (gx_ad G s)), (2, .int (zI (i : Int)))] [] := by
  refine up_ind (fun i hi ih => ?_)
  refine gx_iload_n B dX2_copyFrom_50 rfl rfl ?_
  refine z_bipush B dX2_copyFrom_51 (by decide) ?_
  refine z_icmp_ge (tgt := 91) B dX2_copyFrom_53 ⟨by omega, by omega⟩ ⟨by omega, by omega⟩ (by decide) (fun c53 => ?_) (fun c53 => ?_)
  · refine z_ret B Rt dX2_copyFrom_91 ?_
    rw [show i = 8 by omega]
  · refine gx_aload_n B dX2_copyFrom_56 rfl rfl ?_
    refine gx_iload_n B dX2_copyFrom_57 rfl rfl ?_
    refine gx_aload_n B dX2_copyFrom_58 rfl rfl ?_
    refine gx_getr (t := (s + 1)) B fl_X2_30 (kDesk hs) (bDesk hs) (rDesk6 hs) dX2_copyFrom_59 ?_
    refine gx_iload_n B dX2_copyFrom_62 rfl rfl ?_
    refine z_iald i B (aDesk1 hs) (cDesk1 hs) rfl (show i < 8 by omega) (by decide) dX2_copyFrom_63 ?_
    refine gx_aload_n B dX2_copyFrom_64 rfl rfl ?_
    refine gx_getr (t := (s + 2)) B fl_X2_34 (kDesk hs) (bDesk hs) (rDesk7 hs) dX2_copyFrom_65 ?_
    refine gx_iload_n B dX2_copyFrom_68 rfl rfl ?_
    refine z_iald i B (aDesk2 hs) (cDesk2 hs) rfl (show i < 8 by omega) (by decide) dX2_copyFrom_69 ?_
    refine gx_aload_n B dX2_copyFrom_70 rfl rfl ?_
    refine gx_getr (t := (s + 3)) B fl_X2_37 (kDesk hs) (bDesk hs) (rDesk8 hs) dX2_copyFrom_71 ?_
    refine gx_iload_n B dX2_copyFrom_74 rfl rfl ?_
    refine z_iald i B (aDesk3 hs) (cDesk3 hs) rfl (show i < 8 by omega) (by decide) dX2_copyFrom_75 ?_
    refine gx_aload_n B dX2_copyFrom_76 rfl rfl ?_
    refine gx_getr (t := (s + 4)) B fl_X2_40 (kDesk hs) (bDesk hs) (rDesk9 hs) dX2_copyFrom_77 ?_
    refine gx_iload_n B dX2_copyFrom_80 rfl rfl ?_
    refine z_iald i B (aDesk4 hs) (cDesk4 hs) rfl (show i < 8 by omega) (by decide) dX2_copyFrom_81 ?_
    refine z_callVv [.int (zI (i : Int)), .int (zI ((cpyN J d s i) (s + 1) i)), .int (zI ((cpyN J d s i) (s + 2) i)), .int (zI ((cpyN J d s i) (s + 3) i)), .int (zI ((cpyN J d s i) (s + 4) i))] B lv_X2_43 (mX2_write hG hd (cpyN J d s i) (b := i) (by omega) (c := (cpyN J d s i) (s + 1) i) (l := (cpyN J d s i) (s + 2) i) (n := (cpyN J d s i) (s + 3) i) (m := (cpyN J d s i) (s + 4) i)) (kDesk hd) (bDesk hd) rfl rfl (Nat.le_of_ble_eq_true rfl) (by decide) (by decide) dX2_copyFrom_82 (fun J1 hJ1 => ?_)
    refine z_iinc (fun v9 => [(0, .ref (gx_ad G d)), (1, .ref (gx_ad G s)), (2, .int (zI v9))]) B dX2_copyFrom_85 rfl (by decide) rfl (fun _ => rfl) (fun v2 hv2 => ?_)
    rw [show v2 = ((i + 1 : Nat) : Int) from (by omega)]
    refine gx_goto (tgt := 50) B dX2_copyFrom_88 (by decide) ?_
    rw [hJ1, cpy_step hds]
    exact ih (by omega)

theorem mX2_copyFrom {l : Launch} {G : gx_G} (hG : gx_OK G 76) {d s : Nat} (hd : isDesk d) (hs : isDesk s) (hne : d ≠ s) (J : zJ) : zMv l G yX2_copyFrom cX2_copyFrom 3 rmX2_copyFrom [.ref (gx_ad G d), .ref (gx_ad G s)] J (fun J' => J' = cpyN J d s 8) := by
  refine gx_mv hG (by decide) (Nat.le_of_ble_eq_true rfl) (fun X hla B Rt => ?_)
  subst hla
  have B : gx_B G X RX2 cX2_copyFrom 3 rmX2_copyFrom 76 := B
  show gx_WG G X 3 (zh J) 0 [(0, .ref (gx_ad G d)), (1, .ref (gx_ad G s))] []
  refine gx_aload_n B dX2_copyFrom_0 rfl rfl ?_
  refine gx_aload_n B dX2_copyFrom_1 rfl rfl ?_
  refine z_geti B fl_X2_9 (kDesk hs) (bDesk hs) (zDesk0 hs) dX2_copyFrom_2 ?_
  refine z_puti B fw_X2_9 (kDesk hd) (bDesk hd) (zDesk0 hd) dX2_copyFrom_5 (fun J1 hJ1 => ?_)
  refine gx_aload_n B dX2_copyFrom_8 rfl rfl ?_
  refine gx_aload_n B dX2_copyFrom_9 rfl rfl ?_
  refine z_geti B fl_X2_15 (kDesk hs) (bDesk hs) (zDesk1 hs) dX2_copyFrom_10 ?_
  refine z_puti B fw_X2_15 (kDesk hd) (bDesk hd) (zDesk1 hd) dX2_copyFrom_13 (fun J2 hJ2 => ?_)
  refine gx_aload_n B dX2_copyFrom_16 rfl rfl ?_
  refine gx_aload_n B dX2_copyFrom_17 rfl rfl ?_
  refine z_geti B fl_X2_18 (kDesk hs) (bDesk hs) (zDesk2 hs) dX2_copyFrom_18 ?_
  refine z_puti B fw_X2_18 (kDesk hd) (bDesk hd) (zDesk2 hd) dX2_copyFrom_21 (fun J3 hJ3 => ?_)
  refine gx_aload_n B dX2_copyFrom_24 rfl rfl ?_
  refine gx_aload_n B dX2_copyFrom_25 rfl rfl ?_
  refine z_geti B fl_X2_21 (kDesk hs) (bDesk hs) (zDesk3 hs) dX2_copyFrom_26 ?_
  refine z_puti B fw_X2_21 (kDesk hd) (bDesk hd) (zDesk3 hd) dX2_copyFrom_29 (fun J4 hJ4 => ?_)
  refine gx_aload_n B dX2_copyFrom_32 rfl rfl ?_
  refine gx_aload_n B dX2_copyFrom_33 rfl rfl ?_
  refine z_geti B fl_X2_24 (kDesk hs) (bDesk hs) (zDesk4 hs) dX2_copyFrom_34 ?_
  refine z_puti B fw_X2_24 (kDesk hd) (bDesk hd) (zDesk4 hd) dX2_copyFrom_37 (fun J5 hJ5 => ?_)
  refine gx_aload_n B dX2_copyFrom_40 rfl rfl ?_
  refine gx_aload_n B dX2_copyFrom_41 rfl rfl ?_
  refine z_geti B fl_X2_27 (kDesk hs) (bDesk hs) (zDesk5 hs) dX2_copyFrom_42 ?_
  refine z_puti B fw_X2_27 (kDesk hd) (bDesk hd) (zDesk5 hd) dX2_copyFrom_45 (fun J6 hJ6 => ?_)
  refine z_iconst B dX2_copyFrom_48 ?_
  refine z_istore_n (fun v9 => [(0, .ref (gx_ad G d)), (1, .ref (gx_ad G s)), (2, .int (zI v9))]) B dX2_copyFrom_49 rfl (by decide) rfl (fun _ => rfl) (fun v2 hv2 => ?_)
  rw [show v2 = ((0 : Nat) : Int) from (by omega)]
  have hds := ds_ne hd hs hne
  have e : J6 = cpyN J d s 0 := by
    rw [← cpy_start hds, hJ6, hJ5, zup_ne (by omega), hJ4, zup_ne (by omega), zup_ne (by omega), hJ3, zup_ne (by omega), zup_ne (by omega), zup_ne (by omega), hJ2, zup_ne (by omega), zup_ne (by omega), zup_ne (by omega), zup_ne (by omega), hJ1, zup_ne (by omega), zup_ne (by omega), zup_ne (by omega), zup_ne (by omega), zup_ne (by omega)]
  rw [e]
  exact lpCpy hG B hd hs hds Rt 0 (by omega)


def BelOK (J : zJ) (n : Nat) : Prop := J 11 2 = (n : Int) ∧ (∀ b, b < n → J 12 b = useZ J 14 b ∧ J 13 b = J 5 b) ∧ BelN J J n (J 1 4) (J 1 3) (2 ^ n)
def Settled (J : zJ) (n : Nat) : Prop := Lrn J 14 (J 1 0) (J 1 1) n (J 2) (J 3) ∧ HandOK J 14 n ∧ BelOK J n
theorem VD.keep {J J' : zJ} {d n : Nat} (h : VD J d n) (e : ∀ x k, d ≤ x → x ≤ d + 4 → J' x k = J x k) : VD J' d n := by
  unfold VD DPre
  have e0 : ∀ k, J' d k = J d k := fun k => e d k (by omega) (by omega)
  have e1 : ∀ k, J' (d + 1) k = J (d + 1) k := fun k => e _ k (by omega) (by omega)
  have e2 : ∀ k, J' (d + 2) k = J (d + 2) k := fun k => e _ k (by omega) (by omega)
  have e3 : ∀ k, J' (d + 3) k = J (d + 3) k := fun k => e _ k (by omega) (by omega)
  have e4 : ∀ k, J' (d + 4) k = J (d + 4) k := fun k => e _ k (by omega) (by omega)
  simp only [e0, e1, e2, e3, e4]
  exact h
theorem useZ_congr {J J' : zJ} {b : Nat} (e : ∀ x k, x ≤ 10 ∨ 14 ≤ x → J' x k = J x k) : useZ J' 14 b = useZ J 14 b := by
  unfold useZ
  rw [e 4 b (by omega), e 1 2 (by omega), hnt_congr (fun k => e _ k (by omega)) (e _ _ (by omega)) (fun k => e _ k (by omega)) (fun k => e _ k (by omega))]
theorem BPre.of {J J1 : zJ} {n : Nat} (hV : VD J 1 n) (h2 : J1 11 2 = (n : Int)) (hu : ∀ b, b < n → J1 12 b = useZ J 14 b ∧ J1 13 b = J 5 b) : BPre J1 n := ⟨h2, hV.2.2.2.2.2.1.2.1, fun b hb => by
  rw [(hu b hb).1, (hu b hb).2]
  exact ⟨use_le hV hb 14, (hV.2.2.2.2.2.2 b hb).2⟩⟩
theorem settle_fin {J J1 J2 : zJ} {n : Nat} (hV : VD J 1 n) (hL : Lrn J 14 (J 1 0) (J 1 1) n (J 2) (J 3)) (hH : HandOK J 14 n) (h1 : J1 11 2 = (n : Int) ∧ (∀ b, b < n → J1 12 b = useZ J 14 b ∧ J1 13 b = J 5 b) ∧ UFr J J1) (h2 : BelN J1 J2 n (J1 1 4) (J1 1 3) (2 ^ n) ∧ WFr J1 J2) : Settled J2 n ∧ ∀ x k, ¬ (11 ≤ x ∧ x ≤ 13) → J2 x k = J x k := by
  have fr : ∀ x k, ¬ (11 ≤ x ∧ x ≤ 13) → J2 x k = J x k := fun x k h => by rw [h2.2 x k (by omega), h1.2.2 x k (by omega) (by omega) (by omega)]
  have h8 := hV.2.2.2.2.2.1.2.1
  obtain ⟨e1, e2, e3⟩ := h2.2.fun
  refine ⟨⟨?_, hH.keep (fun x k h => fr x k (by omega)) h8, ?_⟩, fr⟩
  · rw [fr 1 0 (by omega), fr 1 1 (by omega), show J2 2 = J 2 from funext fun k => fr 2 k (by omega), show J2 3 = J 3 from funext fun k => fr 3 k (by omega)]
    exact hL.keep (fun x k h => fr x k (by omega)) h8
  · refine ⟨by rw [e1]; exact h1.1, fun b hb => ?_, ?_⟩
    · rw [e2, e3, useZ_congr (fun x k h => fr x k (by omega)), fr 5 b (by omega)]
      exact h1.2.1 b hb
    · have := h2.1
      rw [h1.2.2 1 4 (by omega) (by omega) (by omega), h1.2.2 1 3 (by omega) (by omega) (by omega)] at this
      rw [fr 1 4 (by omega), fr 1 3 (by omega)]
      unfold BelN at this ⊢
      rw [e1, e2, e3]
      exact this

theorem mX5_settleBellows {l : Launch} {G : gx_G} (hG : gx_OK G 76) (J : zJ) {n : Nat} (hV : VD J 1 n) (hL : Lrn J 14 (J 1 0) (J 1 1) n (J 2) (J 3)) (hH : HandOK J 14 n) : zMv l G yX5_settleBellows cX5_settleBellows 1 rmX5_settleBellows [.ref (gx_ad G 0)] J (fun J' => Settled J' n ∧ ∀ x k, ¬ (11 ≤ x ∧ x ≤ 13) → J' x k = J x k) := by
  refine gx_mv hG (by decide) (Nat.le_of_ble_eq_true rfl) (fun X hla B Rt => ?_)
  subst hla
  have B : gx_B G X RX5 cX5_settleBellows 1 rmX5_settleBellows 76 := B
  show gx_WG G X 1 (zh J) 0 [(0, .ref (gx_ad G 0))] []
  refine gx_aload_n B dX5_settleBellows_0 rfl rfl ?_
  refine gx_getr (t := 11) B fl_X5_36 rfl (by decide) rfl dX5_settleBellows_1 ?_
  refine gx_aload_n B dX5_settleBellows_4 rfl rfl ?_
  refine gx_getr (t := 1) B fl_X5_10 rfl (by decide) rfl dX5_settleBellows_5 ?_
  refine gx_aload_n B dX5_settleBellows_8 rfl rfl ?_
  refine gx_getr (t := 14) B fl_X5_26 rfl (by decide) rfl dX5_settleBellows_9 ?_
  refine z_callVv [.ref (gx_ad G 1), .ref (gx_ad G 14)] B lv_X5_209 (mX0_load hG J hV hL hH) rfl (by decide) rfl rfl (Nat.le_of_ble_eq_true rfl) (by decide) (by decide) dX5_settleBellows_12 (fun J1 hJ1 => ?_)
  have f4 := hJ1.2.2 1 4 (by omega) (by omega) (by omega)
  have f3 := hJ1.2.2 1 3 (by omega) (by omega) (by omega)
  obtain ⟨v1, v2, v3, v4, v5, v6, v7⟩ := id hV
  refine gx_aload_n B dX5_settleBellows_15 rfl rfl ?_
  refine gx_getr (t := 11) B fl_X5_36 rfl (by decide) rfl dX5_settleBellows_16 ?_
  refine gx_aload_n B dX5_settleBellows_19 rfl rfl ?_
  refine gx_getr (t := 1) B fl_X5_10 rfl (by decide) rfl dX5_settleBellows_20 ?_
  refine z_geti B fl_X5_163 (kDesk pD1) (bDesk pD1) (zDesk4 pD1) dX5_settleBellows_23 ?_
  refine gx_aload_n B dX5_settleBellows_26 rfl rfl ?_
  refine gx_getr (t := 1) B fl_X5_10 rfl (by decide) rfl dX5_settleBellows_27 ?_
  refine z_geti B fl_X5_202 (kDesk pD1) (bDesk pD1) (zDesk3 pD1) dX5_settleBellows_30 ?_
  refine z_callVv [.int (zI (J1 1 4)), .int (zI (J1 1 3))] B lv_X5_213 (mX0_choose hG J1 (N := n) (st := J1 1 4) (room := J1 1 3) (BPre.of hV hJ1.1 hJ1.2.1) (by omega) (by omega) (by omega) (by omega)) rfl (by decide) rfl rfl (Nat.le_of_ble_eq_true rfl) (by decide) (by decide) dX5_settleBellows_33 (fun J2 hJ2 => ?_)
  refine z_ret B Rt dX5_settleBellows_36 ?_
  exact settle_fin hV hL hH hJ1 hJ2

theorem mX5_settleHand {l : Launch} {G : gx_G} (hG : gx_OK G 76) (J : zJ) {n : Nat} (hV : VD J 1 n) (hL : Lrn J 14 (J 1 0) (J 1 1) n (J 2) (J 3)) : zMv l G yX5_settleHand cX5_settleHand 1 rmX5_settleHand [.ref (gx_ad G 0)] J (fun J' => Settled J' n ∧ ∀ x k, ¬ (11 ≤ x ∧ x ≤ 44) → J' x k = J x k) := by
  refine gx_mv hG (by decide) (Nat.le_of_ble_eq_true rfl) (fun X hla B Rt => ?_)
  subst hla
  have B : gx_B G X RX5 cX5_settleHand 1 rmX5_settleHand 76 := B
  show gx_WG G X 1 (zh J) 0 [(0, .ref (gx_ad G 0))] []
  refine gx_aload_n B dX5_settleHand_0 rfl rfl ?_
  refine gx_getr (t := 14) B fl_X5_26 rfl (by decide) rfl dX5_settleHand_1 ?_
  refine gx_aload_n B dX5_settleHand_4 rfl rfl ?_
  refine gx_getr (t := 1) B fl_X5_10 rfl (by decide) rfl dX5_settleHand_5 ?_
  refine z_geti B fl_X5_86 (kDesk pD1) (bDesk pD1) (zDesk5 pD1) dX5_settleHand_8 ?_
  rw [show J 1 5 = (n : Int) from hV.2.2.2.2.2.1.1]
  refine z_callVv [.int (zI (n : Int))] B lv_X5_143 (mX4_choose hG pH0 J (n := n) (hL.pre hV.2.2.2.2.2.1.2.1)) (kHand pH0) (bHand pH0) rfl rfl (Nat.le_of_ble_eq_true rfl) (by decide) (by decide) dX5_settleHand_11 (fun J1 hJ1 => ?_)
  have fr1 : ∀ x k, ¬ (14 ≤ x ∧ x ≤ 44) → J1 x k = J x k := fun x k h => hJ1.2 x k (by omega) (by omega) (by omega)
  have hL1 : Lrn J1 14 (J1 1 0) (J1 1 1) n (J1 2) (J1 3) := by
    rw [fr1 1 0 (by omega), fr1 1 1 (by omega), show J1 2 = J 2 from funext fun k => fr1 2 k (by omega), show J1 3 = J 3 from funext fun k => fr1 3 k (by omega)]
    exact hL.keep (fun x k h => hJ1.2 x k (by omega) (by omega) (by omega)) hV.2.2.2.2.2.1.2.1
  refine gx_aload_n B dX5_settleHand_14 rfl rfl ?_
  refine z_callVv [] B lv_X5_199 (mX5_settleBellows hG J1 (n := n) (hV.keep (fun x k h1 h2 => fr1 x k (by omega))) hL1 hJ1.1) rfl (by decide) rfl rfl (Nat.le_of_ble_eq_true rfl) (by decide) (by decide) dX5_settleHand_15 (fun J2 hJ2 => ?_)
  refine z_ret B Rt dX5_settleHand_18 ?_
  exact ⟨hJ2.1, fun x k h => by rw [hJ2.2 x k (by omega), fr1 x k (by omega)]⟩

theorem mX5_settleBeat {l : Launch} {G : gx_G} (hG : gx_OK G 76) (J : zJ) {n b : Nat} (hV : VD J 1 n) (hb : b < n) (hT : Tuned J 15 (J 1 0) (J 1 1)) (hL : ∀ x, x < n → x ≠ b → GoodsAt J (14 + 15 + 2 * x) (J 2 x) (J 1 0) (J 1 1) (J 3 x)) : zMv l G yX5_settleBeat cX5_settleBeat 2 rmX5_settleBeat [.ref (gx_ad G 0), .int (zI (b : Int))] J (fun J' => Settled J' n ∧ ∀ x k, ¬ (11 ≤ x ∧ x ≤ 44) → J' x k = J x k) := by
  refine gx_mv hG (by decide) (Nat.le_of_ble_eq_true rfl) (fun X hla B Rt => ?_)
  subst hla
  have B : gx_B G X RX5 cX5_settleBeat 2 rmX5_settleBeat 76 := B
  show gx_WG G X 2 (zh J) 0 [(0, .ref (gx_ad G 0)), (1, .int (zI (b : Int)))] []
  have h8 := hV.2.2.2.2.2.1.2.1
  have hdb := hV.2.2.2.2.2.1.2.2 b hb
  refine gx_aload_n B dX5_settleBeat_0 rfl rfl ?_
  refine gx_getr (t := 14) B fl_X5_26 rfl (by decide) rfl dX5_settleBeat_1 ?_
  refine gx_getr (t := 18) B fl_X5_113 (kHand pH0) (bHand pH0) (rHand1 pH0) dX5_settleBeat_4 ?_
  refine gx_iload_n B dX5_settleBeat_7 rfl rfl ?_
  refine z_aald b (14 + 15 + 2 * b) B (kHg pH0) (cHg pH0) rfl (show b < 8 by omega) (by decide) (rHg pH0 (show b < 8 by omega)) dX5_settleBeat_8 ?_
  refine gx_aload_n B dX5_settleBeat_9 rfl rfl ?_
  refine gx_getr (t := 14) B fl_X5_26 rfl (by decide) rfl dX5_settleBeat_10 ?_
  refine gx_getr (t := 15) B fl_X5_58 (kHand pH0) (bHand pH0) (rHand0 pH0) dX5_settleBeat_13 ?_
  refine gx_aload_n B dX5_settleBeat_16 rfl rfl ?_
  refine gx_getr (t := 1) B fl_X5_10 rfl (by decide) rfl dX5_settleBeat_17 ?_
  refine gx_getr (t := 2) B fl_X5_101 (kDesk pD1) (bDesk pD1) (rDesk6 pD1) dX5_settleBeat_20 ?_
  refine gx_iload_n B dX5_settleBeat_23 rfl rfl ?_
  refine z_iald b B (aDesk1 pD1) (cDesk1 pD1) rfl (show b < 8 by omega) (by decide) dX5_settleBeat_24 ?_
  refine gx_aload_n B dX5_settleBeat_25 rfl rfl ?_
  refine gx_getr (t := 1) B fl_X5_10 rfl (by decide) rfl dX5_settleBeat_26 ?_
  refine gx_getr (t := 3) B fl_X5_104 (kDesk pD1) (bDesk pD1) (rDesk7 pD1) dX5_settleBeat_29 ?_
  refine gx_iload_n B dX5_settleBeat_32 rfl rfl ?_
  refine z_iald b B (aDesk2 pD1) (cDesk2 pD1) rfl (show b < 8 by omega) (by decide) dX5_settleBeat_33 ?_
  refine z_callVv [.ref (gx_ad G 15), .int (zI (J 2 b)), .int (zI (J 3 b))] B lv_X5_205 (mX3_find hG (gdH pH0 (show b < 8 by omega)) (bdH pH0) J (base := J 1 0) (rows := J 1 1) (chord := J 2 b) (low := J 3 b) hV.1.1 hV.1.2 hdb.1.1 hdb.1.2 hdb.2.1 hdb.2.2 hT) (kGoods (gdH pH0 (show b < 8 by omega))) (bGoods (gdH pH0 (show b < 8 by omega))) rfl rfl (Nat.le_of_ble_eq_true rfl) (by decide) (by decide) dX5_settleBeat_34 (fun J1 hJ1 => ?_)
  have fr1 : ∀ x k, ¬ (29 ≤ x ∧ x ≤ 44) → J1 x k = J x k := fun x k h => hJ1.2 x k (by omega) (by omega)
  have hL1 : Lrn J1 14 (J1 1 0) (J1 1 1) n (J1 2) (J1 3) := by
    rw [fr1 1 0 (by omega), fr1 1 1 (by omega), show J1 2 = J 2 from funext fun k => fr1 2 k (by omega), show J1 3 = J 3 from funext fun k => fr1 3 k (by omega)]
    refine ⟨hT.keep (fr1 _ _ (by omega)) (fun k => fr1 _ _ (by omega)) (fun k => fr1 _ _ (by omega)), fun x hx => ?_⟩
    by_cases e : x = b
    · rw [e]; exact hJ1.1
    · exact (hL x hx e).keep (fun k => hJ1.2 _ _ (by omega) (by omega)) (fun k => hJ1.2 _ _ (by omega) (by omega))
  refine gx_aload_n B dX5_settleBeat_37 rfl rfl ?_
  refine z_callVv [] B lv_X5_55 (mX5_settleHand hG J1 (n := n) (hV.keep (fun x k h1 h2 => fr1 x k (by omega))) hL1) rfl (by decide) rfl rfl (Nat.le_of_ble_eq_true rfl) (by decide) (by decide) dX5_settleBeat_38 (fun J2 hJ2 => ?_)
  refine z_ret B Rt dX5_settleBeat_41 ?_
  exact ⟨hJ2.1, fun x k h => by rw [hJ2.2 x k h, fr1 x k (by omega)]⟩

