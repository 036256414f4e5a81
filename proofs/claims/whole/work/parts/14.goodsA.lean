
theorem gx_ldcw {G : gx_G} {X : gx_X} {own : String} {cc : ByteArray} {nL lo : Nat} {rm : Room} {J : zJ} {pc : Nat} {lv : List (Nat × Value)} {st : List Value} {n : Nat} {v : Int32} (z : Int) (B : gx_B G X own cc nL rm lo) (hd : decode cc pc = .ok (.ldc_w n, 3)) (hv : Cond.constant own n v ∈ gtbl) (hz : v = zI z) (kk : gx_WG G X nL (zh J) (pc + 3) lv (.int (zI z) :: st)) : gx_WG G X nL (zh J) pc lv st := by
  obtain ⟨p, l, e, R, s, m, args, below, meth, c, Q, A, kk0, nn0⟩ := X
  obtain ⟨⟨hx, hb, hml, hown, hts⟩, hK, hR, hG, hA, hk0, hn0⟩ := B
  subst hz
  intro H locs ls hP hS hl
  exact lv_ldcw hx hb hown (hts _ hv) hd (kk H locs ls hP hS hl)
theorem bz_n0 {p : Prop} [Decidable p] : ¬ bz p = 0 ↔ p := by unfold bz; split <;> simp_all

theorem mJ6_bitCount {l : Launch} {G : gx_G} (hG : gx_OK G 76) (J : zJ) {x : Int} : zMi l G yJ6_bitCount_0f7a4 cJ6_bitCount_0f7a4 1 .int rmJ6_bitCount [.int (zI x)] J (fun r J' => r = bcZ x ∧ J' = J) := by
  refine gx_mi hG (by decide) (Nat.le_of_ble_eq_true rfl) (fun X hla B Rt => ?_)
  subst hla
  have B : gx_B G X RJ6 cJ6_bitCount_0f7a4 1 rmJ6_bitCount 76 := B
  show gx_WG G X 1 (zh J) 0 [(0, .int (zI x))] []
  refine gx_iload_n B dJ6_bitCount_0f7a4_0 rfl rfl ?_
  refine gx_iload_n B dJ6_bitCount_0f7a4_1 rfl rfl ?_
  refine z_iconst B dJ6_bitCount_0f7a4_2 ?_
  refine z_iushr B dJ6_bitCount_0f7a4_3 ?_
  refine gx_ldcw 1431655765 B dJ6_bitCount_0f7a4_4 lk_J6_265 (by decide) ?_
  refine z_iand B dJ6_bitCount_0f7a4_7 ?_
  refine z_isub B dJ6_bitCount_0f7a4_8 ?_
  refine z_istore_n (fun v => [(0, .int (zI v))]) B dJ6_bitCount_0f7a4_9 rfl (by decide) rfl (fun _ => rfl) (fun b1 hb1 => ?_)
  refine gx_iload_n B dJ6_bitCount_0f7a4_10 rfl rfl ?_
  refine gx_ldcw 858993459 B dJ6_bitCount_0f7a4_11 lk_J6_266 (by decide) ?_
  refine z_iand B dJ6_bitCount_0f7a4_14 ?_
  refine gx_iload_n B dJ6_bitCount_0f7a4_15 rfl rfl ?_
  refine z_iconst B dJ6_bitCount_0f7a4_16 ?_
  refine z_iushr B dJ6_bitCount_0f7a4_17 ?_
  refine gx_ldcw 858993459 B dJ6_bitCount_0f7a4_18 lk_J6_266 (by decide) ?_
  refine z_iand B dJ6_bitCount_0f7a4_21 ?_
  refine z_iadd B dJ6_bitCount_0f7a4_22 ?_
  refine z_istore_n (fun v => [(0, .int (zI v))]) B dJ6_bitCount_0f7a4_23 rfl (by decide) rfl (fun _ => rfl) (fun b2 hb2 => ?_)
  refine gx_iload_n B dJ6_bitCount_0f7a4_24 rfl rfl ?_
  refine gx_iload_n B dJ6_bitCount_0f7a4_25 rfl rfl ?_
  refine z_iconst B dJ6_bitCount_0f7a4_26 ?_
  refine z_iushr B dJ6_bitCount_0f7a4_27 ?_
  refine z_iadd B dJ6_bitCount_0f7a4_28 ?_
  refine gx_ldcw 252645135 B dJ6_bitCount_0f7a4_29 lk_J6_267 (by decide) ?_
  refine z_iand B dJ6_bitCount_0f7a4_32 ?_
  refine z_istore_n (fun v => [(0, .int (zI v))]) B dJ6_bitCount_0f7a4_33 rfl (by decide) rfl (fun _ => rfl) (fun b3 hb3 => ?_)
  refine gx_iload_n B dJ6_bitCount_0f7a4_34 rfl rfl ?_
  refine gx_iload_n B dJ6_bitCount_0f7a4_35 rfl rfl ?_
  refine z_bipush B dJ6_bitCount_0f7a4_36 (by decide) ?_
  refine z_iushr B dJ6_bitCount_0f7a4_38 ?_
  refine z_iadd B dJ6_bitCount_0f7a4_39 ?_
  refine z_istore_n (fun v => [(0, .int (zI v))]) B dJ6_bitCount_0f7a4_40 rfl (by decide) rfl (fun _ => rfl) (fun b4 hb4 => ?_)
  refine gx_iload_n B dJ6_bitCount_0f7a4_41 rfl rfl ?_
  refine gx_iload_n B dJ6_bitCount_0f7a4_42 rfl rfl ?_
  refine z_bipush B dJ6_bitCount_0f7a4_43 (by decide) ?_
  refine z_iushr B dJ6_bitCount_0f7a4_45 ?_
  refine z_iadd B dJ6_bitCount_0f7a4_46 ?_
  refine z_istore_n (fun v => [(0, .int (zI v))]) B dJ6_bitCount_0f7a4_47 rfl (by decide) rfl (fun _ => rfl) (fun b5 hb5 => ?_)
  refine gx_iload_n B dJ6_bitCount_0f7a4_48 rfl rfl ?_
  refine z_bipush B dJ6_bitCount_0f7a4_49 (by decide) ?_
  refine z_iand B dJ6_bitCount_0f7a4_51 ?_
  refine z_ireti B Rt dJ6_bitCount_0f7a4_52 ?_
  subst hb5 hb4 hb3 hb2 hb1
  exact ⟨rfl, rfl⟩

theorem mX3_packed {l : Launch} {G : gx_G} (hG : gx_OK G 76) (J : zJ) {x y z : Int} (hx : bt1 x) (hy : bt1 y) (hz : bt1 z) : zMi l G yX3_packed cX3_packed 7 .int rmX3_packed [.int (zI x), .int (zI y), .int (zI z)] J (fun r J' => r = pkA x y z ∧ J' = J) := by
  refine gx_mi hG (by decide) (Nat.le_of_ble_eq_true rfl) (fun X hla B Rt => ?_)
  subst hla
  have B : gx_B G X RX3 cX3_packed 7 rmX3_packed 76 := B
  show gx_WG G X 7 (zh J) 0 [(0, .int (zI x)), (1, .int (zI y)), (2, .int (zI z))] []
  refine gx_iload_n B dX3_packed_0 rfl rfl ?_
  refine gx_iload_n B dX3_packed_1 rfl rfl ?_
  refine gx_iload_n B dX3_packed_2 rfl rfl ?_
  refine z_mmin B lm_X3_89 (by decide) (Nat.le_of_ble_eq_true rfl) ⟨by omega, by omega⟩ ⟨by omega, by omega⟩ dX3_packed_3 ?_
  refine z_mmin B lm_X3_89 (by decide) (Nat.le_of_ble_eq_true rfl) ⟨by omega, by omega⟩ ⟨by omega, by omega⟩ dX3_packed_6 ?_
  refine z_istore_n (fun v9 => [(0, .int (zI x)), (1, .int (zI y)), (2, .int (zI z)), (3, .int (zI v9))]) B dX3_packed_9 rfl (by decide) rfl (fun _ => rfl) (fun v9 hv9 => ?_)
  rw [hv9]
  refine gx_iload_n B dX3_packed_10 rfl rfl ?_
  refine gx_iload_n B dX3_packed_11 rfl rfl ?_
  refine gx_iload_n B dX3_packed_12 rfl rfl ?_
  refine z_mmax B lm_X3_94 (by decide) (Nat.le_of_ble_eq_true rfl) ⟨by omega, by omega⟩ ⟨by omega, by omega⟩ dX3_packed_13 ?_
  refine z_mmax B lm_X3_94 (by decide) (Nat.le_of_ble_eq_true rfl) ⟨by omega, by omega⟩ ⟨by omega, by omega⟩ dX3_packed_16 ?_
  refine z_istore (fun v9 => [(0, .int (zI x)), (1, .int (zI y)), (2, .int (zI z)), (3, .int (zI (min x (min y z)))), (4, .int (zI v9))]) B dX3_packed_19 (by decide) rfl (fun _ => rfl) (fun v9 hv9 => ?_)
  rw [hv9]
  refine gx_iload_n B dX3_packed_21 rfl rfl ?_
  refine gx_iload_n B dX3_packed_22 rfl rfl ?_
  refine z_iadd B dX3_packed_23 ?_
  refine gx_iload_n B dX3_packed_24 rfl rfl ?_
  refine z_iadd B dX3_packed_25 ?_
  refine gx_iload_n B dX3_packed_26 rfl rfl ?_
  refine z_isub B dX3_packed_27 ?_
  refine gx_iload B dX3_packed_28 rfl ?_
  refine z_isub B dX3_packed_30 ?_
  refine z_istore (fun v9 => [(0, .int (zI x)), (1, .int (zI y)), (2, .int (zI z)), (3, .int (zI (min x (min y z)))), (4, .int (zI (max x (max y z)))), (5, .int (zI v9))]) B dX3_packed_31 (by decide) rfl (fun _ => rfl) (fun v9 hv9 => ?_)
  rw [hv9]
  refine gx_iload_n B dX3_packed_33 rfl rfl ?_
  refine z_iconst B dX3_packed_34 ?_
  refine z_mmax B lm_X3_94 (by decide) (Nat.le_of_ble_eq_true rfl) ⟨by omega, by omega⟩ ⟨by omega, by omega⟩ dX3_packed_35 ?_
  refine z_bipush B dX3_packed_38 (by decide) ?_
  refine z_ishl B dX3_packed_40 ?_
  refine gx_iload B dX3_packed_41 rfl ?_
  refine z_iconst B dX3_packed_43 ?_
  refine z_mmax B lm_X3_94 (by decide) (Nat.le_of_ble_eq_true rfl) ⟨by omega, by omega⟩ ⟨by omega, by omega⟩ dX3_packed_44 ?_
  refine z_ior B dX3_packed_47 ?_
  refine z_istore (fun v9 => [(0, .int (zI x)), (1, .int (zI y)), (2, .int (zI z)), (3, .int (zI (min x (min y z)))), (4, .int (zI (max x (max y z)))), (5, .int (zI ((((x + y) + z) - (min x (min y z))) - (max x (max y z))))), (6, .int (zI v9))]) B dX3_packed_48 (by decide) rfl (fun _ => rfl) (fun v9 hv9 => ?_)
  rw [hv9]
  refine gx_iload B dX3_packed_50 rfl ?_
  refine z_bipush B dX3_packed_52 (by decide) ?_
  refine z_ishl B dX3_packed_54 ?_
  refine gx_iload B dX3_packed_55 rfl ?_
  refine z_iconst B dX3_packed_57 ?_
  refine z_mmax B lm_X3_94 (by decide) (Nat.le_of_ble_eq_true rfl) ⟨by omega, by omega⟩ ⟨by omega, by omega⟩ dX3_packed_58 ?_
  refine z_ior B dX3_packed_61 ?_
  refine z_ireti B Rt dX3_packed_62 ?_
  refine ⟨?_, rfl⟩
  unfold pkA
  rw [zcat7 (a := max (min x (min y z)) 0) (by omega) (by omega) (by omega) (by omega), zcat7 (by omega) (by omega) (by omega) (by omega)]

theorem mX3_takeWithLow {l : Launch} {G : gx_G} (hG : gx_OK G 76) {g : Nat} (hg : isGoods g) (J : zJ) {f z : Int} (hf : bt1 f) (hz : bt1 z) (h6 : bt1 (J g 6)) (h7 : bt1 (J g 7)) (xs : List Int) (hs : GS J g xs) (ok : okL xs) : zMv l G yX3_takeWithLow cX3_takeWithLow 3 rmX3_takeWithLow [.ref (gx_ad G g), .int (zI f), .int (zI z)] J (fun J' => GS J' g (addLows f z (lowsOf (J g 6) (J g 7)) xs) ∧ ∀ a k, a ≠ g + 1 → ¬ (a = g ∧ k = 1) → J' a k = J a k) := by
  refine gx_mv hG (by decide) (Nat.le_of_ble_eq_true rfl) (fun X hla B Rt => ?_)
  subst hla
  have B : gx_B G X RX3 cX3_takeWithLow 3 rmX3_takeWithLow 76 := B
  show gx_WG G X 3 (zh J) 0 [(0, .ref (gx_ad G g)), (1, .int (zI f)), (2, .int (zI z))] []
  have fr0 : ∀ a k, a ≠ g + 1 → ¬ (a = g ∧ k = 1) → J a k = J a k := fun _ _ _ _ => rfl
  refine gx_aload_n B dX3_takeWithLow_0 rfl rfl ?_
  refine z_callVi [] B lv_X3_58 (mX3_hasLowButton hG J hg ⟨by omega, by omega⟩ ⟨by omega, by omega⟩) (kGoods hg) (bGoods hg) rfl rfl (Nat.le_of_ble_eq_true rfl) (by decide) (by decide) dX3_takeWithLow_1 (fun r2 J1 hJ1 => ?_)
  rw [show r2 = bz (¬ J g 6 = -1 ∨ ¬ J g 7 = -1) from hJ1.1, hJ1.2]
  refine z_if_ne (tgt := 17) B dX3_takeWithLow_4 (bzB _) (by decide) (fun c4 => ?_) (fun c4 => ?_)
  · rw [bz_n0] at c4
    refine gx_aload_n B dX3_takeWithLow_17 rfl rfl ?_
    refine z_geti B fl_X3_31 (kGoods hg) (bGoods hg) (zGoods6 hg) dX3_takeWithLow_18 ?_
    refine z_iconst B dX3_takeWithLow_21 ?_
    refine z_icmp_eq (tgt := 38) B dX3_takeWithLow_22 ⟨by omega, by omega⟩ ⟨by omega, by omega⟩ (by decide) (fun c22 => ?_) (fun c22 => ?_)
    · have q6 := c22
      refine gx_aload_n B dX3_takeWithLow_38 rfl rfl ?_
      refine z_geti B fl_X3_34 (kGoods hg) (bGoods hg) (zGoods7 hg) dX3_takeWithLow_39 ?_
      refine z_iconst B dX3_takeWithLow_42 ?_
      refine z_icmp_eq (tgt := 59) B dX3_takeWithLow_43 ⟨by omega, by omega⟩ ⟨by omega, by omega⟩ (by decide) (fun c43 => ?_) (fun c43 => ?_)
      · have q7 := c43
        refine z_ret B Rt dX3_takeWithLow_59 ?_
        first
         | (exfalso; omega)
         | exact ⟨by simpa [lowsOf, addLows, q6, q7, q6] using hs, fr0⟩
      · have q7 := c43
        refine gx_aload_n B dX3_takeWithLow_46 rfl rfl ?_
        refine gx_aload_n B dX3_takeWithLow_47 rfl rfl ?_
        refine z_geti B fl_X3_34 (kGoods hg) (bGoods hg) (zGoods7 hg) dX3_takeWithLow_48 ?_
        refine gx_iload_n B dX3_takeWithLow_51 rfl rfl ?_
        refine gx_iload_n B dX3_takeWithLow_52 rfl rfl ?_
        refine z_callSi [.int (zI (J g 7)), .int (zI f), .int (zI z)] B ls_X3_81 (mX3_packed hG J (x := J g 7) (y := f) (z := z) ⟨by omega, by omega⟩ ⟨by omega, by omega⟩ ⟨by omega, by omega⟩) rfl rfl (Nat.le_of_ble_eq_true rfl) (by decide) (by decide) dX3_takeWithLow_53 (fun r4 J3 hJ3 => ?_)
        rw [show r4 = pkA (J g 7) f z from hJ3.1, hJ3.2]
        have pk5 := pkA_le (x := J g 7) (y := f) (z := z) ⟨by omega, by omega⟩ ⟨by omega, by omega⟩ ⟨by omega, by omega⟩
        refine z_callVv [.int (zI (pkA (J g 7) f z))] B lv_X3_85 (mX3_insert hG hg J (c := pkA (J g 7) f z) (by have h9 := pk5; exact ⟨by omega, by omega⟩) xs hs ok.2.1 ok.1 (fun k hk => by have h9 := okL_at ok hk; exact ⟨by omega, by omega⟩)) (kGoods hg) (bGoods hg) rfl rfl (Nat.le_of_ble_eq_true rfl) (by decide) (by decide) dX3_takeWithLow_56 (fun J6 hJ6 => ?_)
        have gs_J6 : GS J6 g (gins (pkA (J g 7) f z) xs) := hJ6.1
        have ok_J6 : okL (gins (pkA (J g 7) f z) xs) := okL_gins ok pk5.1 pk5.2
        have fr_J6 : ∀ a k, a ≠ g + 1 → ¬ (a = g ∧ k = 1) → J6 a k = J a k := fun a k h1 h2 => (hJ6.2 a k h1 h2).trans (fr0 a k h1 h2)
        have e6_J6 : J6 g 6 = J g 6 := fr_J6 g 6 (by omega) (by omega)
        have e7_J6 : J6 g 7 = J g 7 := fr_J6 g 7 (by omega) (by omega)
        refine z_ret B Rt dX3_takeWithLow_59 ?_
        first
         | (exfalso; omega)
         | exact ⟨by simpa [lowsOf, addLows, q6, q7, e6_J6, e7_J6, q6] using gs_J6, fr_J6⟩
    · have q6 := c22
      refine gx_aload_n B dX3_takeWithLow_25 rfl rfl ?_
      refine gx_aload_n B dX3_takeWithLow_26 rfl rfl ?_
      refine z_geti B fl_X3_31 (kGoods hg) (bGoods hg) (zGoods6 hg) dX3_takeWithLow_27 ?_
      refine gx_iload_n B dX3_takeWithLow_30 rfl rfl ?_
      refine gx_iload_n B dX3_takeWithLow_31 rfl rfl ?_
      refine z_callSi [.int (zI (J g 6)), .int (zI f), .int (zI z)] B ls_X3_81 (mX3_packed hG J (x := J g 6) (y := f) (z := z) ⟨by omega, by omega⟩ ⟨by omega, by omega⟩ ⟨by omega, by omega⟩) rfl rfl (Nat.le_of_ble_eq_true rfl) (by decide) (by decide) dX3_takeWithLow_32 (fun r9 J8 hJ8 => ?_)
      rw [show r9 = pkA (J g 6) f z from hJ8.1, hJ8.2]
      have pk10 := pkA_le (x := J g 6) (y := f) (z := z) ⟨by omega, by omega⟩ ⟨by omega, by omega⟩ ⟨by omega, by omega⟩
      refine z_callVv [.int (zI (pkA (J g 6) f z))] B lv_X3_85 (mX3_insert hG hg J (c := pkA (J g 6) f z) (by have h9 := pk10; exact ⟨by omega, by omega⟩) xs hs ok.2.1 ok.1 (fun k hk => by have h9 := okL_at ok hk; exact ⟨by omega, by omega⟩)) (kGoods hg) (bGoods hg) rfl rfl (Nat.le_of_ble_eq_true rfl) (by decide) (by decide) dX3_takeWithLow_35 (fun J11 hJ11 => ?_)
      have gs_J11 : GS J11 g (gins (pkA (J g 6) f z) xs) := hJ11.1
      have ok_J11 : okL (gins (pkA (J g 6) f z) xs) := okL_gins ok pk10.1 pk10.2
      have fr_J11 : ∀ a k, a ≠ g + 1 → ¬ (a = g ∧ k = 1) → J11 a k = J a k := fun a k h1 h2 => (hJ11.2 a k h1 h2).trans (fr0 a k h1 h2)
      have e6_J11 : J11 g 6 = J g 6 := fr_J11 g 6 (by omega) (by omega)
      have e7_J11 : J11 g 7 = J g 7 := fr_J11 g 7 (by omega) (by omega)
      refine gx_aload_n B dX3_takeWithLow_38 rfl rfl ?_
      refine z_geti B fl_X3_34 (kGoods hg) (bGoods hg) (zGoods7 hg) dX3_takeWithLow_39 ?_
      refine z_iconst B dX3_takeWithLow_42 ?_
      refine z_icmp_eq (tgt := 59) B dX3_takeWithLow_43 ⟨by omega, by omega⟩ ⟨by omega, by omega⟩ (by decide) (fun c43 => ?_) (fun c43 => ?_)
      · have q7 := c43; rw [e7_J11] at q7
        refine z_ret B Rt dX3_takeWithLow_59 ?_
        first
         | (exfalso; omega)
         | exact ⟨by simpa [lowsOf, addLows, q6, q7, e6_J11, e7_J11, q6] using gs_J11, fr_J11⟩
      · have q7 := c43; rw [e7_J11] at q7
        refine gx_aload_n B dX3_takeWithLow_46 rfl rfl ?_
        refine gx_aload_n B dX3_takeWithLow_47 rfl rfl ?_
        refine z_geti B fl_X3_34 (kGoods hg) (bGoods hg) (zGoods7 hg) dX3_takeWithLow_48 ?_
        refine gx_iload_n B dX3_takeWithLow_51 rfl rfl ?_
        refine gx_iload_n B dX3_takeWithLow_52 rfl rfl ?_
        refine z_callSi [.int (zI (J11 g 7)), .int (zI f), .int (zI z)] B ls_X3_81 (mX3_packed hG J11 (x := J11 g 7) (y := f) (z := z) ⟨by omega, by omega⟩ ⟨by omega, by omega⟩ ⟨by omega, by omega⟩) rfl rfl (Nat.le_of_ble_eq_true rfl) (by decide) (by decide) dX3_takeWithLow_53 (fun r14 J13 hJ13 => ?_)
        rw [show r14 = pkA (J11 g 7) f z from hJ13.1, hJ13.2]
        have pk15 := pkA_le (x := J11 g 7) (y := f) (z := z) ⟨by omega, by omega⟩ ⟨by omega, by omega⟩ ⟨by omega, by omega⟩
        refine z_callVv [.int (zI (pkA (J11 g 7) f z))] B lv_X3_85 (mX3_insert hG hg J11 (c := pkA (J11 g 7) f z) (by have h9 := pk15; exact ⟨by omega, by omega⟩) (gins (pkA (J g 6) f z) xs) gs_J11 ok_J11.2.1 ok_J11.1 (fun k hk => by have h9 := okL_at ok_J11 hk; exact ⟨by omega, by omega⟩)) (kGoods hg) (bGoods hg) rfl rfl (Nat.le_of_ble_eq_true rfl) (by decide) (by decide) dX3_takeWithLow_56 (fun J16 hJ16 => ?_)
        have gs_J16 : GS J16 g (gins (pkA (J11 g 7) f z) (gins (pkA (J g 6) f z) xs)) := hJ16.1
        have ok_J16 : okL (gins (pkA (J11 g 7) f z) (gins (pkA (J g 6) f z) xs)) := okL_gins ok_J11 pk15.1 pk15.2
        have fr_J16 : ∀ a k, a ≠ g + 1 → ¬ (a = g ∧ k = 1) → J16 a k = J a k := fun a k h1 h2 => (hJ16.2 a k h1 h2).trans (fr_J11 a k h1 h2)
        have e6_J16 : J16 g 6 = J g 6 := fr_J16 g 6 (by omega) (by omega)
        have e7_J16 : J16 g 7 = J g 7 := fr_J16 g 7 (by omega) (by omega)
        refine z_ret B Rt dX3_takeWithLow_59 ?_
        first
         | (exfalso; omega)
         | exact ⟨by simpa [lowsOf, addLows, q6, q7, e6_J11, e7_J11, e6_J16, e7_J16, q6] using gs_J16, fr_J16⟩
  · rw [bz_0] at c4
    refine gx_aload_n B dX3_takeWithLow_7 rfl rfl ?_
    refine z_iconst B dX3_takeWithLow_8 ?_
    refine gx_iload_n B dX3_takeWithLow_9 rfl rfl ?_
    refine gx_iload_n B dX3_takeWithLow_10 rfl rfl ?_
    refine z_callSi [.int (zI (-1)), .int (zI f), .int (zI z)] B ls_X3_81 (mX3_packed hG J (x := -1) (y := f) (z := z) ⟨by omega, by omega⟩ ⟨by omega, by omega⟩ ⟨by omega, by omega⟩) rfl rfl (Nat.le_of_ble_eq_true rfl) (by decide) (by decide) dX3_takeWithLow_11 (fun r19 J18 hJ18 => ?_)
    rw [show r19 = pkA (-1) f z from hJ18.1, hJ18.2]
    have pk20 := pkA_le (x := -1) (y := f) (z := z) ⟨by omega, by omega⟩ ⟨by omega, by omega⟩ ⟨by omega, by omega⟩
    refine z_callVv [.int (zI (pkA (-1) f z))] B lv_X3_85 (mX3_insert hG hg J (c := pkA (-1) f z) (by have h9 := pk20; exact ⟨by omega, by omega⟩) xs hs ok.2.1 ok.1 (fun k hk => by have h9 := okL_at ok hk; exact ⟨by omega, by omega⟩)) (kGoods hg) (bGoods hg) rfl rfl (Nat.le_of_ble_eq_true rfl) (by decide) (by decide) dX3_takeWithLow_14 (fun J21 hJ21 => ?_)
    have gs_J21 : GS J21 g (gins (pkA (-1) f z) xs) := hJ21.1
    have ok_J21 : okL (gins (pkA (-1) f z) xs) := okL_gins ok pk20.1 pk20.2
    have fr_J21 : ∀ a k, a ≠ g + 1 → ¬ (a = g ∧ k = 1) → J21 a k = J a k := fun a k h1 h2 => (hJ21.2 a k h1 h2).trans (fr0 a k h1 h2)
    have e6_J21 : J21 g 6 = J g 6 := fr_J21 g 6 (by omega) (by omega)
    have e7_J21 : J21 g 7 = J g 7 := fr_J21 g 7 (by omega) (by omega)
    refine gx_aload_n B dX3_takeWithLow_17 rfl rfl ?_
    refine z_geti B fl_X3_31 (kGoods hg) (bGoods hg) (zGoods6 hg) dX3_takeWithLow_18 ?_
    refine z_iconst B dX3_takeWithLow_21 ?_
    refine z_icmp_eq (tgt := 38) B dX3_takeWithLow_22 ⟨by omega, by omega⟩ ⟨by omega, by omega⟩ (by decide) (fun c22 => ?_) (fun c22 => ?_)
    · have q6 := c22; rw [e6_J21] at q6
      refine gx_aload_n B dX3_takeWithLow_38 rfl rfl ?_
      refine z_geti B fl_X3_34 (kGoods hg) (bGoods hg) (zGoods7 hg) dX3_takeWithLow_39 ?_
      refine z_iconst B dX3_takeWithLow_42 ?_
      refine z_icmp_eq (tgt := 59) B dX3_takeWithLow_43 ⟨by omega, by omega⟩ ⟨by omega, by omega⟩ (by decide) (fun c43 => ?_) (fun c43 => ?_)
      · have q7 := c43; rw [e7_J21] at q7
        refine z_ret B Rt dX3_takeWithLow_59 ?_
        first
         | (exfalso; omega)
         | exact ⟨by simpa [lowsOf, addLows, q6, q7, e6_J21, e7_J21, q6] using gs_J21, fr_J21⟩
      · have q7 := c43; rw [e7_J21] at q7
        refine gx_aload_n B dX3_takeWithLow_46 rfl rfl ?_
        refine gx_aload_n B dX3_takeWithLow_47 rfl rfl ?_
        refine z_geti B fl_X3_34 (kGoods hg) (bGoods hg) (zGoods7 hg) dX3_takeWithLow_48 ?_
        refine gx_iload_n B dX3_takeWithLow_51 rfl rfl ?_
        refine gx_iload_n B dX3_takeWithLow_52 rfl rfl ?_
        refine z_callSi [.int (zI (J21 g 7)), .int (zI f), .int (zI z)] B ls_X3_81 (mX3_packed hG J21 (x := J21 g 7) (y := f) (z := z) ⟨by omega, by omega⟩ ⟨by omega, by omega⟩ ⟨by omega, by omega⟩) rfl rfl (Nat.le_of_ble_eq_true rfl) (by decide) (by decide) dX3_takeWithLow_53 (fun r24 J23 hJ23 => ?_)
        rw [show r24 = pkA (J21 g 7) f z from hJ23.1, hJ23.2]
        have pk25 := pkA_le (x := J21 g 7) (y := f) (z := z) ⟨by omega, by omega⟩ ⟨by omega, by omega⟩ ⟨by omega, by omega⟩
        refine z_callVv [.int (zI (pkA (J21 g 7) f z))] B lv_X3_85 (mX3_insert hG hg J21 (c := pkA (J21 g 7) f z) (by have h9 := pk25; exact ⟨by omega, by omega⟩) (gins (pkA (-1) f z) xs) gs_J21 ok_J21.2.1 ok_J21.1 (fun k hk => by have h9 := okL_at ok_J21 hk; exact ⟨by omega, by omega⟩)) (kGoods hg) (bGoods hg) rfl rfl (Nat.le_of_ble_eq_true rfl) (by decide) (by decide) dX3_takeWithLow_56 (fun J26 hJ26 => ?_)
        have gs_J26 : GS J26 g (gins (pkA (J21 g 7) f z) (gins (pkA (-1) f z) xs)) := hJ26.1
        have ok_J26 : okL (gins (pkA (J21 g 7) f z) (gins (pkA (-1) f z) xs)) := okL_gins ok_J21 pk25.1 pk25.2
        have fr_J26 : ∀ a k, a ≠ g + 1 → ¬ (a = g ∧ k = 1) → J26 a k = J a k := fun a k h1 h2 => (hJ26.2 a k h1 h2).trans (fr_J21 a k h1 h2)
        have e6_J26 : J26 g 6 = J g 6 := fr_J26 g 6 (by omega) (by omega)
        have e7_J26 : J26 g 7 = J g 7 := fr_J26 g 7 (by omega) (by omega)
        refine z_ret B Rt dX3_takeWithLow_59 ?_
        first
         | (exfalso; omega)
         | exact ⟨by simpa [lowsOf, addLows, q6, q7, e6_J21, e7_J21, e6_J26, e7_J26, q6] using gs_J26, fr_J26⟩
    · have q6 := c22; rw [e6_J21] at q6
      refine gx_aload_n B dX3_takeWithLow_25 rfl rfl ?_
      refine gx_aload_n B dX3_takeWithLow_26 rfl rfl ?_
      refine z_geti B fl_X3_31 (kGoods hg) (bGoods hg) (zGoods6 hg) dX3_takeWithLow_27 ?_
      refine gx_iload_n B dX3_takeWithLow_30 rfl rfl ?_
      refine gx_iload_n B dX3_takeWithLow_31 rfl rfl ?_
      refine z_callSi [.int (zI (J21 g 6)), .int (zI f), .int (zI z)] B ls_X3_81 (mX3_packed hG J21 (x := J21 g 6) (y := f) (z := z) ⟨by omega, by omega⟩ ⟨by omega, by omega⟩ ⟨by omega, by omega⟩) rfl rfl (Nat.le_of_ble_eq_true rfl) (by decide) (by decide) dX3_takeWithLow_32 (fun r29 J28 hJ28 => ?_)
      rw [show r29 = pkA (J21 g 6) f z from hJ28.1, hJ28.2]
      have pk30 := pkA_le (x := J21 g 6) (y := f) (z := z) ⟨by omega, by omega⟩ ⟨by omega, by omega⟩ ⟨by omega, by omega⟩
      refine z_callVv [.int (zI (pkA (J21 g 6) f z))] B lv_X3_85 (mX3_insert hG hg J21 (c := pkA (J21 g 6) f z) (by have h9 := pk30; exact ⟨by omega, by omega⟩) (gins (pkA (-1) f z) xs) gs_J21 ok_J21.2.1 ok_J21.1 (fun k hk => by have h9 := okL_at ok_J21 hk; exact ⟨by omega, by omega⟩)) (kGoods hg) (bGoods hg) rfl rfl (Nat.le_of_ble_eq_true rfl) (by decide) (by decide) dX3_takeWithLow_35 (fun J31 hJ31 => ?_)
      have gs_J31 : GS J31 g (gins (pkA (J21 g 6) f z) (gins (pkA (-1) f z) xs)) := hJ31.1
      have ok_J31 : okL (gins (pkA (J21 g 6) f z) (gins (pkA (-1) f z) xs)) := okL_gins ok_J21 pk30.1 pk30.2
      have fr_J31 : ∀ a k, a ≠ g + 1 → ¬ (a = g ∧ k = 1) → J31 a k = J a k := fun a k h1 h2 => (hJ31.2 a k h1 h2).trans (fr_J21 a k h1 h2)
      have e6_J31 : J31 g 6 = J g 6 := fr_J31 g 6 (by omega) (by omega)
      have e7_J31 : J31 g 7 = J g 7 := fr_J31 g 7 (by omega) (by omega)
      refine gx_aload_n B dX3_takeWithLow_38 rfl rfl ?_
      refine z_geti B fl_X3_34 (kGoods hg) (bGoods hg) (zGoods7 hg) dX3_takeWithLow_39 ?_
      refine z_iconst B dX3_takeWithLow_42 ?_
      refine z_icmp_eq (tgt := 59) B dX3_takeWithLow_43 ⟨by omega, by omega⟩ ⟨by omega, by omega⟩ (by decide) (fun c43 => ?_) (fun c43 => ?_)
      · have q7 := c43; rw [e7_J31] at q7
        refine z_ret B Rt dX3_takeWithLow_59 ?_
        first
         | (exfalso; omega)
         | exact ⟨by simpa [lowsOf, addLows, q6, q7, e6_J21, e7_J21, e6_J31, e7_J31, q6] using gs_J31, fr_J31⟩
      · have q7 := c43; rw [e7_J31] at q7
        refine gx_aload_n B dX3_takeWithLow_46 rfl rfl ?_
        refine gx_aload_n B dX3_takeWithLow_47 rfl rfl ?_
        refine z_geti B fl_X3_34 (kGoods hg) (bGoods hg) (zGoods7 hg) dX3_takeWithLow_48 ?_
        refine gx_iload_n B dX3_takeWithLow_51 rfl rfl ?_
        refine gx_iload_n B dX3_takeWithLow_52 rfl rfl ?_
        refine z_callSi [.int (zI (J31 g 7)), .int (zI f), .int (zI z)] B ls_X3_81 (mX3_packed hG J31 (x := J31 g 7) (y := f) (z := z) ⟨by omega, by omega⟩ ⟨by omega, by omega⟩ ⟨by omega, by omega⟩) rfl rfl (Nat.le_of_ble_eq_true rfl) (by decide) (by decide) dX3_takeWithLow_53 (fun r34 J33 hJ33 => ?_)
        rw [show r34 = pkA (J31 g 7) f z from hJ33.1, hJ33.2]
        have pk35 := pkA_le (x := J31 g 7) (y := f) (z := z) ⟨by omega, by omega⟩ ⟨by omega, by omega⟩ ⟨by omega, by omega⟩
        refine z_callVv [.int (zI (pkA (J31 g 7) f z))] B lv_X3_85 (mX3_insert hG hg J31 (c := pkA (J31 g 7) f z) (by have h9 := pk35; exact ⟨by omega, by omega⟩) (gins (pkA (J21 g 6) f z) (gins (pkA (-1) f z) xs)) gs_J31 ok_J31.2.1 ok_J31.1 (fun k hk => by have h9 := okL_at ok_J31 hk; exact ⟨by omega, by omega⟩)) (kGoods hg) (bGoods hg) rfl rfl (Nat.le_of_ble_eq_true rfl) (by decide) (by decide) dX3_takeWithLow_56 (fun J36 hJ36 => ?_)
        have gs_J36 : GS J36 g (gins (pkA (J31 g 7) f z) (gins (pkA (J21 g 6) f z) (gins (pkA (-1) f z) xs))) := hJ36.1
        have ok_J36 : okL (gins (pkA (J31 g 7) f z) (gins (pkA (J21 g 6) f z) (gins (pkA (-1) f z) xs))) := okL_gins ok_J31 pk35.1 pk35.2
        have fr_J36 : ∀ a k, a ≠ g + 1 → ¬ (a = g ∧ k = 1) → J36 a k = J a k := fun a k h1 h2 => (hJ36.2 a k h1 h2).trans (fr_J31 a k h1 h2)
        have e6_J36 : J36 g 6 = J g 6 := fr_J36 g 6 (by omega) (by omega)
        have e7_J36 : J36 g 7 = J g 7 := fr_J36 g 7 (by omega) (by omega)
        refine z_ret B Rt dX3_takeWithLow_59 ?_
        first
         | (exfalso; omega)
         | exact ⟨by simpa [lowsOf, addLows, q6, q7, e6_J21, e7_J21, e6_J31, e7_J31, e6_J36, e7_J36, q6] using gs_J36, fr_J36⟩

