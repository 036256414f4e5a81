
abbrev isL (base rows lw : Int) (b : Nat) : Prop := b % 6 < 2 ∧ thr rows b ∧ snd base b = zshl 1 lw
abbrev gI : GSt := (1073741824, [])
def fgF (w base rows lw : Int) : Nat → Nat → GSt → Int → GSt × Int
  | 0, _, s, h => (s, h)
  | f + 1, b, s, h => if isL base rows lw b then fgF w base rows lw f (b + 1) (jAll w base rows b s) 1 else fgF w base rows lw f (b + 1) s h
def gMf (w base rows lw : Int) : GSt × Int := if lw < 0 then (gI, 0) else fgF w base rows lw 72 0 gI 0
def gMr (w base rows lw : Int) : GSt := if (gMf w base rows lw).2 = 0 then jAll w base rows (-1) gI else (gMf w base rows lw).1
def gMc (w base rows lw : Int) : Int := if (gMf w base rows lw).2 = 0 then 0 else 1
def gMm (w base rows lw : Int) : Int := if (gMf w base rows lw).2 = 0 then bz (0 ≤ lw) else 0
theorem MG.ini {J : zJ} {b : Nat} {lc lm lc' lm' : Int} (h : MG J b gI lc lm) : MG J b gI lc' lm' := by
  rcases h with h | h
  · exact Or.inl h
  · exact absurd rfl h.2.1.2.1

theorem fg_end {G : gx_G} {X : gx_X} (hG : gx_OK G 91) (B : gx_B G X RX6 cX6_findGood 5 rmX6_findGood 91) {b : Nat} {J0 : zJ} (hJ : JPre J0 b) (Rt : gx_Rv G X (zpv (fun J' => MG J' b (gMr (J0 78 (4 * b)) (J0 77 0) (J0 77 1) (J0 78 (4 * b + 1))) (gMc (J0 78 (4 * b)) (J0 77 0) (J0 77 1) (J0 78 (4 * b + 1))) (gMm (J0 78 (4 * b)) (J0 77 0) (J0 77 1) (J0 78 (4 * b + 1))) ∧ QFr J0 J' b))) : ∀ (J : zJ) (s : GSt) (h : Int), QFr J0 J b → MG J b s 1 0 → (h = 0 ∨ h = 1) → (h = 0 → s = gI) → gMf (J0 78 (4 * b)) (J0 77 0) (J0 77 1) (J0 78 (4 * b + 1)) = (s, h) → gx_WG G X 5 (zh J) 101 [(0, .ref (gx_ad G 76)), (1, .int (zI (b : Int))), (2, .int (zI (J0 78 (4 * b + 1)))), (3, .int (zI h))] [] := by
  intro J s h hfr hM hh hh0 hg
  refine gx_iload_n B dX6_findGood_101 rfl rfl ?_
  refine z_if_ne (tgt := 111) B dX6_findGood_102 ⟨by omega, by omega⟩ (by decide) (fun c102 => ?_) (fun c102 => ?_)
  · refine z_ret B Rt dX6_findGood_111 ?_
    unfold gMr gMc gMm
    rw [if_neg (show ¬ (gMf (J0 78 (4 * b)) (J0 77 0) (J0 77 1) (J0 78 (4 * b + 1))).2 = 0 by rw [hg]; exact c102), if_neg (show ¬ (gMf (J0 78 (4 * b)) (J0 77 0) (J0 77 1) (J0 78 (4 * b + 1))).2 = 0 by rw [hg]; exact c102), if_neg (show ¬ (gMf (J0 78 (4 * b)) (J0 77 0) (J0 77 1) (J0 78 (4 * b + 1))).2 = 0 by rw [hg]; exact c102)]
    have h1 : h = 1 := by omega
    rw [hg]
    exact ⟨hM, hfr⟩
  · refine gx_aload_n B dX6_findGood_105 rfl rfl ?_
    refine gx_iload_n B dX6_findGood_106 rfl rfl ?_
    refine z_iconst B dX6_findGood_107 ?_
    have hM9 : MG J b gI 1 0 := by rw [← hh0 c102]; exact hM
    refine z_callVv [.int (zI (b : Int)), .int (zI (-1))] B lv_X6_100 (by have h9 := mX6_judgeAll (l := gx_la X) hG J (b := b) (low := -1) (hJ.keep hfr) (by decide) gI (hM9.ini); rw [bz_0.mpr (show ¬ (0 : Int) ≤ -1 by omega), show bz ((-1 : Int) < 0 ∧ 0 ≤ J 78 (4 * b + 1)) = bz (0 ≤ J 78 (4 * b + 1)) from by unfold bz; split <;> split <;> omega, hfr.num.1, hfr.num.2.1, hfr.num.2.2.1, hfr.num.2.2.2] at h9; exact h9) rfl (by decide) rfl rfl (Nat.le_of_ble_eq_true rfl) (by decide) (by decide) dX6_findGood_108 (fun J1 hJ1 => ?_)
    refine z_ret B Rt dX6_findGood_111 ?_
    unfold gMr gMc gMm
    rw [if_pos (show (gMf (J0 78 (4 * b)) (J0 77 0) (J0 77 1) (J0 78 (4 * b + 1))).2 = 0 by rw [hg]; exact c102), if_pos (show (gMf (J0 78 (4 * b)) (J0 77 0) (J0 77 1) (J0 78 (4 * b + 1))).2 = 0 by rw [hg]; exact c102), if_pos (show (gMf (J0 78 (4 * b)) (J0 77 0) (J0 77 1) (J0 78 (4 * b + 1))).2 = 0 by rw [hg]; exact c102)]
    exact ⟨hJ1.1, hfr.tr hJ1.2⟩

theorem lpFg {G : gx_G} {X : gx_X} (hG : gx_OK G 91) (B : gx_B G X RX6 cX6_findGood 5 rmX6_findGood 91) {b : Nat} {J0 : zJ} (hJ : JPre J0 b) (Rt : gx_Rv G X (zpv (fun J' => MG J' b (gMr (J0 78 (4 * b)) (J0 77 0) (J0 77 1) (J0 78 (4 * b + 1))) (gMc (J0 78 (4 * b)) (J0 77 0) (J0 77 1) (J0 78 (4 * b + 1))) (gMm (J0 78 (4 * b)) (J0 77 0) (J0 77 1) (J0 78 (4 * b + 1))) ∧ QFr J0 J' b))) : ∀ i : Nat, i ≤ 72 → ∀ (J : zJ) (s : GSt) (h : Int), QFr J0 J b → MG J b s 1 0 → (h = 0 ∨ h = 1) → (h = 0 → s = gI) → (0 ≤ J0 78 (4 * b + 1) → gMf (J0 78 (4 * b)) (J0 77 0) (J0 77 1) (J0 78 (4 * b + 1)) = fgF (J0 78 (4 * b)) (J0 77 0) (J0 77 1) (J0 78 (4 * b + 1)) (72 - i) i s h) → (J0 78 (4 * b + 1) < 0 → s = gI ∧ h = 0) → gx_WG G X 5 (zh J) 45 [(0, .ref (gx_ad G 76)), (1, .int (zI (b : Int))), (2, .int (zI (J0 78 (4 * b + 1)))), (3, .int (zI h)), (4, .int (zI (i : Int)))] [] := by
  refine up_ind (fun i hi ih => ?_)
  intro J s h hfr hM hh hh0 hF hneg
  have hz := zrem6 (i := i) (by omega)
  refine gx_iload B dX6_findGood_45 rfl ?_
  refine z_bipush B dX6_findGood_47 (by decide) ?_
  refine z_icmp_ge (tgt := 101) B dX6_findGood_49 ⟨by omega, by omega⟩ ⟨by omega, by omega⟩ (by decide) (fun c49 => ?_) (fun c49 => ?_)
  · refine gx_sub [0, 1, 2, 3] rfl ?_
    have hg : gMf (J0 78 (4 * b)) (J0 77 0) (J0 77 1) (J0 78 (4 * b + 1)) = (s, h) := by
      by_cases hq : 0 ≤ J0 78 (4 * b + 1)
      · rw [hF hq, show 72 - i = 0 by omega]; rfl
      · unfold gMf
        rw [if_pos (by omega), (hneg (by omega)).1, (hneg (by omega)).2]
    exact fg_end hG B hJ Rt J s h hfr hM hh hh0 hg
  · refine gx_iload_n B dX6_findGood_52 rfl rfl ?_
    refine z_if_lt (tgt := 101) B dX6_findGood_53 ⟨by have := hJ.2.2.2.1; omega, by have := hJ.2.2.2.2; omega⟩ (by decide) (fun c53 => ?_) (fun c53 => ?_)
    · refine gx_sub [0, 1, 2, 3] rfl ?_
      have hg : gMf (J0 78 (4 * b)) (J0 77 0) (J0 77 1) (J0 78 (4 * b + 1)) = (s, h) := by
        by_cases hq : 0 ≤ J0 78 (4 * b + 1)
        · rw [hF hq, show 72 - i = 0 by omega]; rfl
        · unfold gMf
          rw [if_pos (by omega), (hneg (by omega)).1, (hneg (by omega)).2]
      exact fg_end hG B hJ Rt J s h hfr hM hh hh0 hg
    · refine gx_iload B dX6_findGood_56 rfl ?_
      refine z_bipush B dX6_findGood_58 (by decide) ?_
      refine z_irem B dX6_findGood_60 (by decide) ?_
      refine z_iconst B dX6_findGood_61 ?_
      refine z_icmp_ge (tgt := 95) B dX6_findGood_62 (zremB _ _) ⟨by omega, by omega⟩ (by decide) (fun c62 => ?_) (fun c62 => ?_)
      · rw [hz] at c62
        have hch : ¬ isL (J0 77 0) (J0 77 1) (J0 78 (4 * b + 1)) i := fun q => by have := q.1; omega
        refine z_iinc (fun v9 => [(0, .ref (gx_ad G 76)), (1, .int (zI (b : Int))), (2, .int (zI (J0 78 (4 * b + 1)))), (3, .int (zI h)), (4, .int (zI v9))]) B dX6_findGood_95 rfl (by decide) rfl (fun _ => rfl) (fun v4 hv4 => ?_)
        rw [show v4 = ((i + 1 : Nat) : Int) from (by omega)]
        refine gx_goto (tgt := 45) B dX6_findGood_98 (by decide) ?_
        refine ih (by omega) J s h hfr hM hh hh0 ?_ (fun q => by omega)
        intro hq
        rw [hF hq, show 72 - i = (71 - i) + 1 by omega, show 72 - (i + 1) = 71 - i by omega]
        conv => lhs; unfold fgF
        rw [if_neg hch]
      · rw [hz] at c62
        refine gx_aload_n B dX6_findGood_65 rfl rfl ?_
        refine gx_iload B dX6_findGood_66 rfl ?_
        refine z_callVi [.int (zI (i : Int))] B lv_X6_64 (mX6_isThere hG J (b := (i : Int))) rfl (by decide) rfl rfl (Nat.le_of_ble_eq_true rfl) (by decide) (by decide) dX6_findGood_68 (fun r1 Jx hJx => ?_)
        rw [show r1 = bz (thr (J 77 1) (i : Int)) from hJx.1, hJx.2]
        refine z_if_eq (tgt := 95) B dX6_findGood_71 (bzB _) (by decide) (fun c71 => ?_) (fun c71 => ?_)
        · rw [bz_0, hfr.num.2.1] at c71
          have hch : ¬ isL (J0 77 0) (J0 77 1) (J0 78 (4 * b + 1)) i := fun q => c71 q.2.1
          refine z_iinc (fun v9 => [(0, .ref (gx_ad G 76)), (1, .int (zI (b : Int))), (2, .int (zI (J0 78 (4 * b + 1)))), (3, .int (zI h)), (4, .int (zI v9))]) B dX6_findGood_95 rfl (by decide) rfl (fun _ => rfl) (fun v4 hv4 => ?_)
          rw [show v4 = ((i + 1 : Nat) : Int) from (by omega)]
          refine gx_goto (tgt := 45) B dX6_findGood_98 (by decide) ?_
          refine ih (by omega) J s h hfr hM hh hh0 ?_ (fun q => by omega)
          intro hq
          rw [hF hq, show 72 - i = (71 - i) + 1 by omega, show 72 - (i + 1) = 71 - i by omega]
          conv => lhs; unfold fgF
          rw [if_neg hch]
        · rw [bz_n0, hfr.num.2.1] at c71
          refine gx_aload_n B dX6_findGood_74 rfl rfl ?_
          refine gx_iload B dX6_findGood_75 rfl ?_
          refine z_callVi [.int (zI (i : Int))] B lv_X6_68 (mX6_soundOf hG J (b := (i : Int))) rfl (by decide) rfl rfl (Nat.le_of_ble_eq_true rfl) (by decide) (by decide) dX6_findGood_77 (fun r2 Jy hJy => ?_)
          rw [show r2 = snd (J 77 0) (i : Int) from hJy.1, hJy.2]
          refine z_iconst B dX6_findGood_80 ?_
          refine gx_iload_n B dX6_findGood_81 rfl rfl ?_
          refine z_ishl B dX6_findGood_82 ?_
          refine z_icmp_ne (tgt := 95) B dX6_findGood_83 (by rw [hfr.num.1]; have := snd_eq hJ.2.1.1 hJ.2.1.2 (k := i) (by omega); exact ⟨by omega, by omega⟩) (zshlB _ _) (by decide) (fun c83 => ?_) (fun c83 => ?_)
          · rw [hfr.num.1] at c83
            have hch : ¬ isL (J0 77 0) (J0 77 1) (J0 78 (4 * b + 1)) i := fun q => c83 q.2.2
            refine z_iinc (fun v9 => [(0, .ref (gx_ad G 76)), (1, .int (zI (b : Int))), (2, .int (zI (J0 78 (4 * b + 1)))), (3, .int (zI h)), (4, .int (zI v9))]) B dX6_findGood_95 rfl (by decide) rfl (fun _ => rfl) (fun v4 hv4 => ?_)
            rw [show v4 = ((i + 1 : Nat) : Int) from (by omega)]
            refine gx_goto (tgt := 45) B dX6_findGood_98 (by decide) ?_
            refine ih (by omega) J s h hfr hM hh hh0 ?_ (fun q => by omega)
            intro hq
            rw [hF hq, show 72 - i = (71 - i) + 1 by omega, show 72 - (i + 1) = 71 - i by omega]
            conv => lhs; unfold fgF
            rw [if_neg hch]
          · rw [hfr.num.1] at c83
            have hch : isL (J0 77 0) (J0 77 1) (J0 78 (4 * b + 1)) i := ⟨by omega, c71, c83⟩
            refine z_iconst B dX6_findGood_86 ?_
            refine z_istore_n (fun v9 => [(0, .ref (gx_ad G 76)), (1, .int (zI (b : Int))), (2, .int (zI (J0 78 (4 * b + 1)))), (3, .int (zI v9)), (4, .int (zI (i : Int)))]) B dX6_findGood_87 rfl (by decide) rfl (fun _ => rfl) (fun v9 hv9 => ?_)
            rw [hv9]
            refine gx_aload_n B dX6_findGood_88 rfl rfl ?_
            refine gx_iload_n B dX6_findGood_89 rfl rfl ?_
            refine gx_iload B dX6_findGood_90 rfl ?_
            refine z_callVv [.int (zI (b : Int)), .int (zI (i : Int))] B lv_X6_100 (by have h9 := mX6_judgeAll (l := gx_la X) hG J (b := b) (low := (i : Int)) (hJ.keep hfr) ⟨by omega, by omega⟩ s (by rw [bz_1.mpr (show 0 ≤ (i : Int) by omega), bz_0.mpr (show ¬ ((i : Int) < 0 ∧ 0 ≤ J 78 (4 * b + 1)) by omega)]; exact hM); rw [bz_1.mpr (show 0 ≤ (i : Int) by omega), bz_0.mpr (show ¬ ((i : Int) < 0 ∧ 0 ≤ J 78 (4 * b + 1)) by omega), hfr.num.1, hfr.num.2.1, hfr.num.2.2.1] at h9; exact h9) rfl (by decide) rfl rfl (Nat.le_of_ble_eq_true rfl) (by decide) (by decide) dX6_findGood_92 (fun J1 hJ1 => ?_)
            refine z_iinc (fun v9 => [(0, .ref (gx_ad G 76)), (1, .int (zI (b : Int))), (2, .int (zI (J0 78 (4 * b + 1)))), (3, .int (zI 1)), (4, .int (zI v9))]) B dX6_findGood_95 rfl (by decide) rfl (fun _ => rfl) (fun v4 hv4 => ?_)
            rw [show v4 = ((i + 1 : Nat) : Int) from (by omega)]
            refine gx_goto (tgt := 45) B dX6_findGood_98 (by decide) ?_
            refine ih (by omega) J1 (jAll (J0 78 (4 * b)) (J0 77 0) (J0 77 1) (i : Int) s) 1 (hfr.tr hJ1.2) hJ1.1 (Or.inr rfl) (fun q => by omega) ?_ (fun q => by omega)
            intro hq
            rw [hF hq, show 72 - i = (71 - i) + 1 by omega, show 72 - (i + 1) = 71 - i by omega]
            conv => lhs; unfold fgF
            rw [if_pos hch]

theorem mX6_findGood {l : Launch} {G : gx_G} (hG : gx_OK G 91) (J : zJ) {b : Nat} (hJ : JPre J b) : zMv l G yX6_findGood cX6_findGood 5 rmX6_findGood [.ref (gx_ad G 76), .int (zI (b : Int))] J (fun J' => MG J' b (gMr (J 78 (4 * b)) (J 77 0) (J 77 1) (J 78 (4 * b + 1))) (gMc (J 78 (4 * b)) (J 77 0) (J 77 1) (J 78 (4 * b + 1))) (gMm (J 78 (4 * b)) (J 77 0) (J 77 1) (J 78 (4 * b + 1))) ∧ QFr J J' b) := by
  refine gx_mv hG (by decide) (Nat.le_of_ble_eq_true rfl) (fun X hla B Rt => ?_)
  subst hla
  have B : gx_B G X RX6 cX6_findGood 5 rmX6_findGood 91 := B
  show gx_WG G X 5 (zh J) 0 [(0, .ref (gx_ad G 76)), (1, .int (zI (b : Int)))] []
  refine gx_aload_n B dX6_findGood_0 rfl rfl ?_
  refine gx_getr (t := 83) B fl_X6_28 rfl (by decide) rfl dX6_findGood_1 ?_
  refine gx_iload_n B dX6_findGood_4 rfl rfl ?_
  refine z_iconst B dX6_findGood_5 ?_
  refine z_iast b B rfl (by decide) rfl hJ.1 (by decide) dX6_findGood_6 (fun J1 hJ1 => ?_)
  refine gx_aload_n B dX6_findGood_7 rfl rfl ?_
  refine gx_getr (t := 80) B fl_X6_19 rfl (by decide) rfl dX6_findGood_8 ?_
  refine gx_iload_n B dX6_findGood_11 rfl rfl ?_
  refine z_bipush B dX6_findGood_12 (by decide) ?_
  refine z_iast b B rfl (by decide) rfl hJ.1 (by decide) dX6_findGood_14 (fun J2 hJ2 => ?_)
  refine gx_aload_n B dX6_findGood_15 rfl rfl ?_
  refine gx_getr (t := 81) B fl_X6_22 rfl (by decide) rfl dX6_findGood_16 ?_
  refine gx_iload_n B dX6_findGood_19 rfl rfl ?_
  refine z_iconst B dX6_findGood_20 ?_
  refine z_iast b B rfl (by decide) rfl hJ.1 (by decide) dX6_findGood_21 (fun J3 hJ3 => ?_)
  refine gx_aload_n B dX6_findGood_22 rfl rfl ?_
  refine gx_getr (t := 82) B fl_X6_25 rfl (by decide) rfl dX6_findGood_23 ?_
  refine gx_iload_n B dX6_findGood_26 rfl rfl ?_
  refine z_iconst B dX6_findGood_27 ?_
  refine z_iast b B rfl (by decide) rfl hJ.1 (by decide) dX6_findGood_28 (fun J4 hJ4 => ?_)
  refine gx_aload_n B dX6_findGood_29 rfl rfl ?_
  refine gx_getr (t := 78) B fl_X6_13 rfl (by decide) rfl dX6_findGood_30 ?_
  refine z_iconst B dX6_findGood_33 ?_
  refine gx_iload_n B dX6_findGood_34 rfl rfl ?_
  refine z_imul B dX6_findGood_35 ?_
  refine z_iconst B dX6_findGood_36 ?_
  refine z_iadd B dX6_findGood_37 ?_
  refine z_iald (4 * b + 1) B rfl (by decide) (by omega) (show 4 * b + 1 < 32 by have := hJ.1; omega) (by decide) dX6_findGood_38 ?_
  refine z_istore_n (fun v9 => [(0, .ref (gx_ad G 76)), (1, .int (zI (b : Int))), (2, .int (zI v9))]) B dX6_findGood_39 rfl (by decide) rfl (fun _ => rfl) (fun v2 hv2 => ?_)
  rw [show v2 = J 78 (4 * b + 1) from (by rw [hv2, hJ4, zup_ne (by omega), hJ3, zup_ne (by omega), hJ2, zup_ne (by omega), hJ1, zup_ne (by omega)])]
  refine z_iconst B dX6_findGood_40 ?_
  refine z_istore_n (fun v9 => [(0, .ref (gx_ad G 76)), (1, .int (zI (b : Int))), (2, .int (zI (J 78 (4 * b + 1)))), (3, .int (zI v9))]) B dX6_findGood_41 rfl (by decide) rfl (fun _ => rfl) (fun v9 hv9 => ?_)
  rw [hv9]
  refine z_iconst B dX6_findGood_42 ?_
  refine z_istore (fun v9 => [(0, .ref (gx_ad G 76)), (1, .int (zI (b : Int))), (2, .int (zI (J 78 (4 * b + 1)))), (3, .int (zI 0)), (4, .int (zI v9))]) B dX6_findGood_43 (by decide) rfl (fun _ => rfl) (fun v4 hv4 => ?_)
  rw [show v4 = ((0 : Nat) : Int) from (by omega)]
  refine lpFg hG B hJ Rt 0 (by omega) J4 gI 0 (fun x k h1 h2 h3 h4 => by rw [hJ4, zup_ne (by omega), hJ3, zup_ne (by omega), hJ2, zup_ne (by omega), hJ1, zup_ne (by omega)]) (Or.inl ⟨rfl, ?_, ?_, ?_, ?_⟩) (Or.inl rfl) (fun _ => rfl) (fun q => ?_) (fun _ => ⟨rfl, rfl⟩)
  · rw [hJ4, zup_ne (by omega), hJ3, zup_ne (by omega), hJ2, zup_self]
  · rw [hJ4, zup_ne (by omega), hJ3, zup_self]
  · rw [hJ4, zup_self]
  · rw [hJ4, zup_ne (by omega), hJ3, zup_ne (by omega), hJ2, zup_ne (by omega), hJ1, zup_self]
  · unfold gMf
    rw [if_neg (by omega)]

