
def GSB (J : zJ) (g : Nat) (s : GSt) : Prop := GS J g s.2 ∧ J g 8 = s.1
def okS (s : GSt) : Prop := okL s.2 ∧ 0 ≤ s.1 ∧ s.1 ≤ 1073741824
theorem okS_off {r f z : Int} {ls : List Int} {s : GSt} (h : okS s) (hr : 0 ≤ r ∧ r ≤ 3300) (hf : bt1 f) (hz : bt1 z) (hl : ∀ l ∈ ls, bt1 l) (hn : ls ≠ []) : okS (offS r f z ls s) := by
  rcases Int.lt_trichotomy r s.1 with h1 | h1 | h1
  · rw [offS_lt hn h1]
    exact ⟨okL_add hf hz ls hl okL_nil, by show 0 ≤ r; omega, by show r ≤ _; omega⟩
  · rw [offS_same h1]
    exact ⟨okL_add hf hz ls hl h.1, by show 0 ≤ r; omega, by show r ≤ _; omega⟩
  · rw [offS_gt h1]; exact h

theorem mX3_offer {l : Launch} {G : gx_G} (hG : gx_OK G 76) {g : Nat} (hg : isGoods g) (J : zJ) {f z b nt : Int} (hf : bt1 f) (hz : bt1 z) (hb0 : 0 ≤ b) (hb1 : b ≤ 2) (hn0 : 0 ≤ nt) (hn1 : nt ≤ 4095) (h50 : 0 ≤ J g 5) (h51 : J g 5 ≤ 4095) (h6 : bt1 (J g 6)) (h7 : bt1 (J g 7)) (s : GSt) (hs : GSB J g s) (ok : okS s) : zMv l G yX3_offer cX3_offer 8 rmX3_offer [.ref (gx_ad G g), .int (zI f), .int (zI z), .int (zI b), .int (zI nt)] J (fun J' => GSB J' g (offS (rnk (J g 5) nt b) f z (lowsOf (J g 6) (J g 7)) s) ∧ ∀ a k, a ≠ g + 1 → ¬ (a = g ∧ (k = 1 ∨ k = 8)) → J' a k = J a k) := by
  refine gx_mv hG (by decide) (Nat.le_of_ble_eq_true rfl) (fun X hla B Rt => ?_)
  subst hla
  have B : gx_B G X RX3 cX3_offer 8 rmX3_offer 76 := B
  show gx_WG G X 8 (zh J) 0 [(0, .ref (gx_ad G g)), (1, .int (zI f)), (2, .int (zI z)), (3, .int (zI b)), (4, .int (zI nt))] []
  obtain ⟨ok1, ok2, ok3⟩ := ok
  have hs8 := hs.2
  have hmi0 := ones_le (zless (J g 5) nt)
  have hsu0 := ones_le (zless nt (J g 5))
  have hrk0 := rnk_le (w := J g 5) (n := nt) hb0 hb1
  refine gx_aload_n B dX3_offer_0 rfl rfl ?_
  refine z_geti B fl_X3_28 (kGoods hg) (bGoods hg) (zGoods5 hg) dX3_offer_1 ?_
  refine gx_iload B dX3_offer_4 rfl ?_
  refine z_iconst B dX3_offer_6 ?_
  refine z_ixor B dX3_offer_7 ?_
  refine z_iand B dX3_offer_8 ?_
  refine z_callSi [.int (zI (zand (J g 5) (zxor nt (-1))))] B ls_X3_71 (mJ6_bitCount hG J (x := zand (J g 5) (zxor nt (-1)))) rfl rfl (Nat.le_of_ble_eq_true rfl) (by decide) (by decide) dX3_offer_9 (fun r2 J1 hJ1 => ?_)
  rw [show r2 = bcZ (zand (J g 5) (zxor nt (-1))) from hJ1.1, hJ1.2]
  rw [show bcZ (zand (J g 5) (zxor nt (-1))) = ones (zless (J g 5) nt) from bc_eq (zand_le h50 h51).1 (zand_le h50 h51).2]
  refine z_istore (fun v9 => [(0, .ref (gx_ad G g)), (1, .int (zI f)), (2, .int (zI z)), (3, .int (zI b)), (4, .int (zI nt)), (5, .int (zI v9))]) B dX3_offer_12 (by decide) rfl (fun _ => rfl) (fun mi hmi => ?_)
  refine gx_iload B dX3_offer_14 rfl ?_
  refine gx_aload_n B dX3_offer_16 rfl rfl ?_
  refine z_geti B fl_X3_28 (kGoods hg) (bGoods hg) (zGoods5 hg) dX3_offer_17 ?_
  refine z_iconst B dX3_offer_20 ?_
  refine z_ixor B dX3_offer_21 ?_
  refine z_iand B dX3_offer_22 ?_
  refine z_callSi [.int (zI (zand nt (zxor (J g 5) (-1))))] B ls_X3_71 (mJ6_bitCount hG J (x := zand nt (zxor (J g 5) (-1)))) rfl rfl (Nat.le_of_ble_eq_true rfl) (by decide) (by decide) dX3_offer_23 (fun r4 J3 hJ3 => ?_)
  rw [show r4 = bcZ (zand nt (zxor (J g 5) (-1))) from hJ3.1, hJ3.2]
  rw [show bcZ (zand nt (zxor (J g 5) (-1))) = ones (zless nt (J g 5)) from bc_eq (zand_le hn0 hn1).1 (zand_le hn0 hn1).2]
  refine z_istore (fun v9 => [(0, .ref (gx_ad G g)), (1, .int (zI f)), (2, .int (zI z)), (3, .int (zI b)), (4, .int (zI nt)), (5, .int (zI mi)), (6, .int (zI v9))]) B dX3_offer_26 (by decide) rfl (fun _ => rfl) (fun su hsu => ?_)
  refine gx_iload B dX3_offer_28 rfl ?_
  refine z_iconst B dX3_offer_30 ?_
  refine z_ishl B dX3_offer_31 ?_
  refine gx_iload B dX3_offer_32 rfl ?_
  refine z_ior B dX3_offer_34 ?_
  refine z_iconst B dX3_offer_35 ?_
  refine z_ishl B dX3_offer_36 ?_
  refine gx_iload_n B dX3_offer_37 rfl rfl ?_
  refine z_ior B dX3_offer_38 ?_
  refine z_istore (fun v9 => [(0, .ref (gx_ad G g)), (1, .int (zI f)), (2, .int (zI z)), (3, .int (zI b)), (4, .int (zI nt)), (5, .int (zI mi)), (6, .int (zI su)), (7, .int (zI v9))]) B dX3_offer_39 (by decide) rfl (fun _ => rfl) (fun rk hrk => ?_)
  rw [show rk = rnk (J g 5) nt b from (by rw [hrk, zcat4 (a := mi) (by omega) (by omega) (by omega) (by omega), zcat4 (by omega) (by omega) (by omega) (by omega), hmi, hsu]; rfl)]
  refine gx_iload B dX3_offer_41 rfl ?_
  refine gx_aload_n B dX3_offer_43 rfl rfl ?_
  refine z_geti B fl_X3_37 (kGoods hg) (bGoods hg) (zGoods8 hg) dX3_offer_44 ?_
  refine z_icmp_ge (tgt := 61) B dX3_offer_47 ⟨by omega, by omega⟩ ⟨by have := hs.2; omega, by have := hs.2; omega⟩ (by decide) (fun c47 => ?_) (fun c47 => ?_)
  · have hb8 : zB (J g 8) := ⟨by have := hs.2; omega, by have := hs.2; omega⟩
    have q0 := 0
    have q1 := 0
    have q2 := 0
    have q3 := 0
    refine gx_iload B dX3_offer_61 rfl ?_
    refine gx_aload_n B dX3_offer_63 rfl rfl ?_
    refine z_geti B fl_X3_37 (kGoods hg) (bGoods hg) (zGoods8 hg) dX3_offer_64 ?_
    refine z_icmp_ne (tgt := 76) B dX3_offer_67 ⟨by omega, by omega⟩ hb8 (by decide) (fun c67 => ?_) (fun c67 => ?_)
    · refine z_ret B Rt dX3_offer_76 ?_
      rw [offS_gt (by have := hs.2; omega)]
      exact ⟨hs, fun _ _ _ _ => rfl⟩
    · refine gx_aload_n B dX3_offer_70 rfl rfl ?_
      refine gx_iload_n B dX3_offer_71 rfl rfl ?_
      refine gx_iload_n B dX3_offer_72 rfl rfl ?_
      refine z_callVv [.int (zI f), .int (zI z)] B lv_X3_77 (mX3_takeWithLow hG hg J hf hz (by rw [(rfl : J g 6 = J g 6)]; exact h6) (by rw [(rfl : J g 7 = J g 7)]; exact h7) s.2 hs.1 ok1) (kGoods hg) (bGoods hg) rfl rfl (Nat.le_of_ble_eq_true rfl) (by decide) (by decide) dX3_offer_73 (fun JT hJT => ?_)
      refine z_ret B Rt dX3_offer_76 ?_
      rw [offS_same (by rw [← hs.2]; exact c67)]
      refine ⟨⟨hJT.1, ?_⟩, fun a k h1 h2 => hJT.2 a k h1 (by omega)⟩
      rw [hJT.2 g 8 (by omega) (by omega)]; exact c67.symm
  · refine gx_aload_n B dX3_offer_50 rfl rfl ?_
    refine gx_iload B dX3_offer_51 rfl ?_
    refine z_puti B fw_X3_37 (kGoods hg) (bGoods hg) (zGoods8 hg) dX3_offer_53 (fun JR hJR => ?_)
    refine gx_aload_n B dX3_offer_56 rfl rfl ?_
    refine z_iconst B dX3_offer_57 ?_
    refine z_puti B fw_X3_15 (kGoods hg) (bGoods hg) (zGoods1 hg) dX3_offer_58 (fun JC hJC => ?_)
    have e80 : JC g 8 = rnk (J g 5) nt b := by rw [hJC, zup_ne (by omega), hJR, zup_self]
    have hb8 : zB (JC g 8) := by rw [e80]; exact ⟨by omega, by omega⟩
    have e60 : JC g 6 = J g 6 := by rw [hJC, zup_ne (by omega), hJR, zup_ne (by omega)]
    have e70 : JC g 7 = J g 7 := by rw [hJC, zup_ne (by omega), hJR, zup_ne (by omega)]
    have gs0 : GS JC g [] := ⟨by rw [hJC, zup_self]; rfl, fun k hk => by simp at hk⟩
    refine gx_iload B dX3_offer_61 rfl ?_
    refine gx_aload_n B dX3_offer_63 rfl rfl ?_
    refine z_geti B fl_X3_37 (kGoods hg) (bGoods hg) (zGoods8 hg) dX3_offer_64 ?_
    refine z_icmp_ne (tgt := 76) B dX3_offer_67 ⟨by omega, by omega⟩ hb8 (by decide) (fun c67 => ?_) (fun c67 => ?_)
    · refine z_ret B Rt dX3_offer_76 ?_
      exfalso
      rw [e80] at c67
      exact c67 rfl
    · refine gx_aload_n B dX3_offer_70 rfl rfl ?_
      refine gx_iload_n B dX3_offer_71 rfl rfl ?_
      refine gx_iload_n B dX3_offer_72 rfl rfl ?_
      refine z_callVv [.int (zI f), .int (zI z)] B lv_X3_77 (mX3_takeWithLow hG hg JC hf hz (by rw [e60]; exact h6) (by rw [e70]; exact h7) ([] : List Int) gs0 okL_nil) (kGoods hg) (bGoods hg) rfl rfl (Nat.le_of_ble_eq_true rfl) (by decide) (by decide) dX3_offer_73 (fun JT hJT => ?_)
      refine z_ret B Rt dX3_offer_76 ?_
      rw [offS_lt (lowsOf_ne _ _) (by rw [← hs.2]; exact c47)]
      rw [e60, e70] at hJT
      refine ⟨⟨hJT.1, ?_⟩, fun a k h1 h2 => ?_⟩
      · rw [hJT.2 g 8 (by omega) (by omega), e80]
      · rw [hJT.2 a k h1 (by omega), hJC, zup_ne (by omega), hJR, zup_ne (by omega)]

