
def jst (w base low one two cn : Int) (s : GSt) : GSt := gstep s (rnk w (hrs base two (hrs base one 0)) cn, pkA low one two)
abbrev chd (rows : Int) (a : Nat) : Prop := 2 ≤ a % 6 ∧ thr rows a
def jIF (w base rows low : Int) (a : Nat) : Nat → Nat → GSt → GSt
  | 0, _, s => s
  | f + 1, b, s => jIF w base rows low a f (b + 1) (if chd rows b then jst w base low a b 2 s else s)
def jOF (w base rows low : Int) : Nat → Nat → GSt → GSt
  | 0, _, s => s
  | f + 1, a, s => jOF w base rows low f (a + 1) (if chd rows a then jIF w base rows low a (71 - a) (a + 1) (jst w base low a (-1) 1 s) else s)
def jAll (w base rows low : Int) (s : GSt) : GSt := jOF w base rows low 72 0 (jst w base low (-1) (-1) 0 s)
/-- what judge needs of the reference's numbers -/
def JPre (J : zJ) (b : Nat) : Prop := b < 8 ∧ (0 ≤ J 77 0 ∧ J 77 0 < 12) ∧ (0 ≤ J 78 (4 * b) ∧ J 78 (4 * b) ≤ 4095) ∧ (-1 ≤ J 78 (4 * b + 1) ∧ J 78 (4 * b + 1) ≤ 11)
theorem JPre.keep {J J' : zJ} {b : Nat} (h : JPre J b) (e : QFr J J' b) : JPre J' b := by
  unfold JPre
  rw [e 77 0 (by omega) (by omega) (by omega) (by omega), e 78 (4 * b) (by omega) (by omega) (by omega) (by omega), e 78 (4 * b + 1) (by omega) (by omega) (by omega) (by omega)]
  exact h
theorem QFr.tr {J J1 J2 : zJ} {b : Nat} (h1 : QFr J J1 b) (h2 : QFr J1 J2 b) : QFr J J2 b := fun x k a c d e => (h2 x k a c d e).trans (h1 x k a c d e)
theorem QFr.num {J J' : zJ} {b : Nat} (e : QFr J J' b) : J' 77 0 = J 77 0 ∧ J' 77 1 = J 77 1 ∧ J' 78 (4 * b) = J 78 (4 * b) ∧ J' 78 (4 * b + 1) = J 78 (4 * b + 1) := ⟨e _ _ (by omega) (by omega) (by omega) (by omega), e _ _ (by omega) (by omega) (by omega) (by omega), e _ _ (by omega) (by omega) (by omega) (by omega), e _ _ (by omega) (by omega) (by omega) (by omega)⟩
theorem zrem6 {i : Nat} (h : i < 1000) : zrem (i : Int) 6 = ((i % 6 : Nat) : Int) := by rw [zrem_nn (by omega) (by omega) (by omega) (by omega)]; omega

theorem lpJaI {G : gx_G} {X : gx_X} (hG : gx_OK G 91) (B : gx_B G X RX6 cX6_judgeAll 5 rmX6_judgeAll 91) {b : Nat} {J0 : zJ} {low : Int} (hJ : JPre J0 b) (hlo : bt1 low) {a : Nat} (ha : a < 72) (F : GSt) (kk : ∀ (J : zJ), QFr J0 J b → MG J b F (bz (0 ≤ low)) (bz (low < 0 ∧ 0 ≤ J0 78 (4 * b + 1))) → gx_WG G X 5 (zh J) 88 [(0, .ref (gx_ad G 76)), (1, .int (zI (b : Int))), (2, .int (zI low)), (3, .int (zI (a : Int)))] []) : ∀ i : Nat, i ≤ 72 → ∀ (J : zJ) (s : GSt), QFr J0 J b → MG J b s (bz (0 ≤ low)) (bz (low < 0 ∧ 0 ≤ J0 78 (4 * b + 1))) → F = jIF (J0 78 (4 * b)) (J0 77 0) (J0 77 1) low a (72 - i) i s → gx_WG G X 5 (zh J) 48 [(0, .ref (gx_ad G 76)), (1, .int (zI (b : Int))), (2, .int (zI low)), (3, .int (zI (a : Int))), (4, .int (zI (i : Int)))] [] := by
  refine up_ind (fun i hi ih => ?_)
  intro J s hfr hM hF
  have hz := zrem6 (i := i) (by omega)
  refine gx_iload B dX6_judgeAll_48 rfl ?_
  refine z_bipush B dX6_judgeAll_50 (by decide) ?_
  refine z_icmp_ge (tgt := 88) B dX6_judgeAll_52 ⟨by omega, by omega⟩ ⟨by omega, by omega⟩ (by decide) (fun c52 => ?_) (fun c52 => ?_)
  · refine gx_sub [0, 1, 2, 3] rfl ?_
    refine kk J hfr ?_
    rw [hF, show 72 - i = 0 by omega]
    exact hM
  · refine gx_iload B dX6_judgeAll_55 rfl ?_
    refine z_bipush B dX6_judgeAll_57 (by decide) ?_
    refine z_irem B dX6_judgeAll_59 (by decide) ?_
    refine z_iconst B dX6_judgeAll_60 ?_
    refine z_icmp_le (tgt := 82) B dX6_judgeAll_61 (zremB _ _) ⟨by omega, by omega⟩ (by decide) (fun c61 => ?_) (fun c61 => ?_)
    · rw [hz] at c61
      have hch : ¬ chd (J0 77 1) i := fun q => by have := q.1; omega
      refine z_iinc (fun v9 => [(0, .ref (gx_ad G 76)), (1, .int (zI (b : Int))), (2, .int (zI low)), (3, .int (zI (a : Int))), (4, .int (zI v9))]) B dX6_judgeAll_82 rfl (by decide) rfl (fun _ => rfl) (fun v4 hv4 => ?_)
      rw [show v4 = ((i + 1 : Nat) : Int) from (by omega)]
      refine gx_goto (tgt := 48) B dX6_judgeAll_85 (by decide) ?_
      refine ih (by omega) J s hfr hM ?_
      rw [hF, show 72 - i = (71 - i) + 1 by omega, show 72 - (i + 1) = 71 - i by omega]
      conv => lhs; unfold jIF
      rw [if_neg hch]
    · rw [hz] at c61
      refine gx_aload_n B dX6_judgeAll_64 rfl rfl ?_
      refine gx_iload B dX6_judgeAll_65 rfl ?_
      refine z_callVi [.int (zI (i : Int))] B lv_X6_64 (mX6_isThere hG J (b := (i : Int))) rfl (by decide) rfl rfl (Nat.le_of_ble_eq_true rfl) (by decide) (by decide) dX6_judgeAll_67 (fun r1 Jx hJx => ?_)
      rw [show r1 = bz (thr (J 77 1) (i : Int)) from hJx.1, hJx.2]
      refine z_if_eq (tgt := 82) B dX6_judgeAll_70 (bzB _) (by decide) (fun c70 => ?_) (fun c70 => ?_)
      · rw [bz_0, hfr.num.2.1] at c70
        have hch : ¬ chd (J0 77 1) i := fun q => c70 q.2
        refine z_iinc (fun v9 => [(0, .ref (gx_ad G 76)), (1, .int (zI (b : Int))), (2, .int (zI low)), (3, .int (zI (a : Int))), (4, .int (zI v9))]) B dX6_judgeAll_82 rfl (by decide) rfl (fun _ => rfl) (fun v4 hv4 => ?_)
        rw [show v4 = ((i + 1 : Nat) : Int) from (by omega)]
        refine gx_goto (tgt := 48) B dX6_judgeAll_85 (by decide) ?_
        refine ih (by omega) J s hfr hM ?_
        rw [hF, show 72 - i = (71 - i) + 1 by omega, show 72 - (i + 1) = 71 - i by omega]
        conv => lhs; unfold jIF
        rw [if_neg hch]
      · rw [bz_n0, hfr.num.2.1] at c70
        have hch : chd (J0 77 1) i := ⟨by omega, c70⟩
        refine gx_aload_n B dX6_judgeAll_73 rfl rfl ?_
        refine gx_iload_n B dX6_judgeAll_74 rfl rfl ?_
        refine gx_iload_n B dX6_judgeAll_75 rfl rfl ?_
        refine gx_iload_n B dX6_judgeAll_76 rfl rfl ?_
        refine gx_iload B dX6_judgeAll_77 rfl ?_
        refine z_callVv [.int (zI (b : Int)), .int (zI low), .int (zI (a : Int)), .int (zI (i : Int))] B lv_X6_96 (by have h9 := mX6_judge (l := gx_la X) hG J (b := b) hJ.1 (low := low) (one := (a : Int)) (two := (i : Int)) (cn := 2) (hJ.keep hfr).2.1.1 (hJ.keep hfr).2.1.2 (hJ.keep hfr).2.2.1.1 (hJ.keep hfr).2.2.1.2 (hJ.keep hfr).2.2.2.1 (hJ.keep hfr).2.2.2.2 hlo (Or.inr (Or.inr ⟨⟨by omega, by omega⟩, ⟨by omega, by omega⟩, rfl⟩)) s (by rw [hfr.num.2.2.2]; exact hM); rw [hfr.num.1, hfr.num.2.2.1, hfr.num.2.2.2] at h9; exact h9) rfl (by decide) rfl rfl (Nat.le_of_ble_eq_true rfl) (by decide) (by decide) dX6_judgeAll_79 (fun J1 hJ1 => ?_)
        refine z_iinc (fun v9 => [(0, .ref (gx_ad G 76)), (1, .int (zI (b : Int))), (2, .int (zI low)), (3, .int (zI (a : Int))), (4, .int (zI v9))]) B dX6_judgeAll_82 rfl (by decide) rfl (fun _ => rfl) (fun v4 hv4 => ?_)
        rw [show v4 = ((i + 1 : Nat) : Int) from (by omega)]
        refine gx_goto (tgt := 48) B dX6_judgeAll_85 (by decide) ?_
        refine ih (by omega) J1 (jst (J0 78 (4 * b)) (J0 77 0) low (a : Int) (i : Int) 2 s) (hfr.tr hJ1.2) hJ1.1 ?_
        rw [hF, show 72 - i = (71 - i) + 1 by omega, show 72 - (i + 1) = 71 - i by omega]
        conv => lhs; unfold jIF
        rw [if_pos hch]

theorem lpJaO {G : gx_G} {X : gx_X} (hG : gx_OK G 91) (B : gx_B G X RX6 cX6_judgeAll 5 rmX6_judgeAll 91) {b : Nat} {J0 : zJ} {low : Int} (hJ : JPre J0 b) (hlo : bt1 low) (F : GSt) (Rt : gx_Rv G X (zpv (fun J' => MG J' b F (bz (0 ≤ low)) (bz (low < 0 ∧ 0 ≤ J0 78 (4 * b + 1))) ∧ QFr J0 J' b))) : ∀ i : Nat, i ≤ 72 → ∀ (J : zJ) (s : GSt), QFr J0 J b → MG J b s (bz (0 ≤ low)) (bz (low < 0 ∧ 0 ≤ J0 78 (4 * b + 1))) → F = jOF (J0 78 (4 * b)) (J0 77 0) (J0 77 1) low (72 - i) i s → gx_WG G X 5 (zh J) 10 [(0, .ref (gx_ad G 76)), (1, .int (zI (b : Int))), (2, .int (zI low)), (3, .int (zI (i : Int)))] [] := by
  refine up_ind (fun i hi ih => ?_)
  intro J s hfr hM hF
  have hz := zrem6 (i := i) (by omega)
  refine gx_iload_n B dX6_judgeAll_10 rfl rfl ?_
  refine z_bipush B dX6_judgeAll_11 (by decide) ?_
  refine z_icmp_ge (tgt := 94) B dX6_judgeAll_13 ⟨by omega, by omega⟩ ⟨by omega, by omega⟩ (by decide) (fun c13 => ?_) (fun c13 => ?_)
  · refine z_ret B Rt dX6_judgeAll_94 ?_
    rw [show 72 - i = 0 by omega] at hF
    rw [hF]
    exact ⟨hM, hfr⟩
  · refine gx_iload_n B dX6_judgeAll_16 rfl rfl ?_
    refine z_bipush B dX6_judgeAll_17 (by decide) ?_
    refine z_irem B dX6_judgeAll_19 (by decide) ?_
    refine z_iconst B dX6_judgeAll_20 ?_
    refine z_icmp_lt (tgt := 88) B dX6_judgeAll_21 (zremB _ _) ⟨by omega, by omega⟩ (by decide) (fun c21 => ?_) (fun c21 => ?_)
    · rw [hz] at c21
      have hch : ¬ chd (J0 77 1) i := fun q => by have := q.1; omega
      refine z_iinc (fun v9 => [(0, .ref (gx_ad G 76)), (1, .int (zI (b : Int))), (2, .int (zI low)), (3, .int (zI v9))]) B dX6_judgeAll_88 rfl (by decide) rfl (fun _ => rfl) (fun v3 hv3 => ?_)
      rw [show v3 = ((i + 1 : Nat) : Int) from (by omega)]
      refine gx_goto (tgt := 10) B dX6_judgeAll_91 (by decide) ?_
      refine ih (by omega) J s hfr hM ?_
      rw [hF, show 72 - i = (71 - i) + 1 by omega, show 72 - (i + 1) = 71 - i by omega]
      conv => lhs; unfold jOF
      rw [if_neg hch]
    · rw [hz] at c21
      refine gx_aload_n B dX6_judgeAll_24 rfl rfl ?_
      refine gx_iload_n B dX6_judgeAll_25 rfl rfl ?_
      refine z_callVi [.int (zI (i : Int))] B lv_X6_64 (mX6_isThere hG J (b := (i : Int))) rfl (by decide) rfl rfl (Nat.le_of_ble_eq_true rfl) (by decide) (by decide) dX6_judgeAll_26 (fun r1 Jx hJx => ?_)
      rw [show r1 = bz (thr (J 77 1) (i : Int)) from hJx.1, hJx.2]
      refine z_if_ne (tgt := 35) B dX6_judgeAll_29 (bzB _) (by decide) (fun c29 => ?_) (fun c29 => ?_)
      · rw [bz_n0, hfr.num.2.1] at c29
        have hch : chd (J0 77 1) i := ⟨by omega, c29⟩
        refine gx_aload_n B dX6_judgeAll_35 rfl rfl ?_
        refine gx_iload_n B dX6_judgeAll_36 rfl rfl ?_
        refine gx_iload_n B dX6_judgeAll_37 rfl rfl ?_
        refine gx_iload_n B dX6_judgeAll_38 rfl rfl ?_
        refine z_iconst B dX6_judgeAll_39 ?_
        refine z_callVv [.int (zI (b : Int)), .int (zI low), .int (zI (i : Int)), .int (zI (-1))] B lv_X6_96 (by have h9 := mX6_judge (l := gx_la X) hG J (b := b) hJ.1 (low := low) (one := (i : Int)) (two := -1) (cn := 1) (hJ.keep hfr).2.1.1 (hJ.keep hfr).2.1.2 (hJ.keep hfr).2.2.1.1 (hJ.keep hfr).2.2.1.2 (hJ.keep hfr).2.2.2.1 (hJ.keep hfr).2.2.2.2 hlo (Or.inr (Or.inl ⟨⟨by omega, by omega⟩, rfl, rfl⟩)) s (by rw [hfr.num.2.2.2]; exact hM); rw [hfr.num.1, hfr.num.2.2.1, hfr.num.2.2.2] at h9; exact h9) rfl (by decide) rfl rfl (Nat.le_of_ble_eq_true rfl) (by decide) (by decide) dX6_judgeAll_40 (fun J1 hJ1 => ?_)
        refine gx_iload_n B dX6_judgeAll_43 rfl rfl ?_
        refine z_iconst B dX6_judgeAll_44 ?_
        refine z_iadd B dX6_judgeAll_45 ?_
        refine z_istore (fun v9 => [(0, .ref (gx_ad G 76)), (1, .int (zI (b : Int))), (2, .int (zI low)), (3, .int (zI (i : Int))), (4, .int (zI v9))]) B dX6_judgeAll_46 (by decide) rfl (fun _ => rfl) (fun v4 hv4 => ?_)
        rw [show v4 = ((i + 1 : Nat) : Int) from (by omega)]
        refine lpJaI hG B hJ hlo (a := i) (by omega) (jIF (J0 78 (4 * b)) (J0 77 0) (J0 77 1) low i (71 - i) (i + 1) (jst (J0 78 (4 * b)) (J0 77 0) low (i : Int) (-1) 1 s)) ?_ (i + 1) (by omega) J1 (jst (J0 78 (4 * b)) (J0 77 0) low (i : Int) (-1) 1 s) (hfr.tr hJ1.2) hJ1.1 (by rw [show 72 - (i + 1) = 71 - i by omega])
        intro J2 hfr2 hM2
        refine z_iinc (fun v9 => [(0, .ref (gx_ad G 76)), (1, .int (zI (b : Int))), (2, .int (zI low)), (3, .int (zI v9))]) B dX6_judgeAll_88 rfl (by decide) rfl (fun _ => rfl) (fun v3 hv3 => ?_)
        rw [show v3 = ((i + 1 : Nat) : Int) from (by omega)]
        refine gx_goto (tgt := 10) B dX6_judgeAll_91 (by decide) ?_
        refine ih (by omega) J2 _ hfr2 hM2 ?_
        rw [hF, show 72 - i = (71 - i) + 1 by omega, show 72 - (i + 1) = 71 - i by omega]
        conv => lhs; unfold jOF
        rw [if_pos hch]
      · rw [bz_0, hfr.num.2.1] at c29
        have hch : ¬ chd (J0 77 1) i := fun q => c29 q.2
        refine gx_goto (tgt := 88) B dX6_judgeAll_32 (by decide) ?_
        refine z_iinc (fun v9 => [(0, .ref (gx_ad G 76)), (1, .int (zI (b : Int))), (2, .int (zI low)), (3, .int (zI v9))]) B dX6_judgeAll_88 rfl (by decide) rfl (fun _ => rfl) (fun v3 hv3 => ?_)
        rw [show v3 = ((i + 1 : Nat) : Int) from (by omega)]
        refine gx_goto (tgt := 10) B dX6_judgeAll_91 (by decide) ?_
        refine ih (by omega) J s hfr hM ?_
        rw [hF, show 72 - i = (71 - i) + 1 by omega, show 72 - (i + 1) = 71 - i by omega]
        conv => lhs; unfold jOF
        rw [if_neg hch]

theorem mX6_judgeAll {l : Launch} {G : gx_G} (hG : gx_OK G 91) (J : zJ) {b : Nat} {low : Int} (hJ : JPre J b) (hlo : bt1 low) (s : GSt) (hM : MG J b s (bz (0 ≤ low)) (bz (low < 0 ∧ 0 ≤ J 78 (4 * b + 1)))) : zMv l G yX6_judgeAll cX6_judgeAll 5 rmX6_judgeAll [.ref (gx_ad G 76), .int (zI (b : Int)), .int (zI low)] J (fun J' => MG J' b (jAll (J 78 (4 * b)) (J 77 0) (J 77 1) low s) (bz (0 ≤ low)) (bz (low < 0 ∧ 0 ≤ J 78 (4 * b + 1))) ∧ QFr J J' b) := by
  refine gx_mv hG (by decide) (Nat.le_of_ble_eq_true rfl) (fun X hla B Rt => ?_)
  subst hla
  have B : gx_B G X RX6 cX6_judgeAll 5 rmX6_judgeAll 91 := B
  show gx_WG G X 5 (zh J) 0 [(0, .ref (gx_ad G 76)), (1, .int (zI (b : Int))), (2, .int (zI low))] []
  have hfr : QFr J J b := fun _ _ _ _ _ _ => rfl
  refine gx_aload_n B dX6_judgeAll_0 rfl rfl ?_
  refine gx_iload_n B dX6_judgeAll_1 rfl rfl ?_
  refine gx_iload_n B dX6_judgeAll_2 rfl rfl ?_
  refine z_iconst B dX6_judgeAll_3 ?_
  refine z_iconst B dX6_judgeAll_4 ?_
  refine z_callVv [.int (zI (b : Int)), .int (zI low), .int (zI (-1)), .int (zI (-1))] B lv_X6_96 (by have h9 := mX6_judge (l := gx_la X) hG J (b := b) hJ.1 (low := low) (one := -1) (two := -1) (cn := 0) (hJ.keep hfr).2.1.1 (hJ.keep hfr).2.1.2 (hJ.keep hfr).2.2.1.1 (hJ.keep hfr).2.2.1.2 (hJ.keep hfr).2.2.2.1 (hJ.keep hfr).2.2.2.2 hlo (Or.inl ⟨rfl, rfl, rfl⟩) s (by rw [hfr.num.2.2.2]; exact hM); rw [hfr.num.1, hfr.num.2.2.1, hfr.num.2.2.2] at h9; exact h9) rfl (by decide) rfl rfl (Nat.le_of_ble_eq_true rfl) (by decide) (by decide) dX6_judgeAll_5 (fun J1 hJ1 => ?_)
  refine z_iconst B dX6_judgeAll_8 ?_
  refine z_istore_n (fun v9 => [(0, .ref (gx_ad G 76)), (1, .int (zI (b : Int))), (2, .int (zI low)), (3, .int (zI v9))]) B dX6_judgeAll_9 rfl (by decide) rfl (fun _ => rfl) (fun v3 hv3 => ?_)
  rw [show v3 = ((0 : Nat) : Int) from (by omega)]
  exact lpJaO hG B hJ hlo _ Rt 0 (by omega) J1 _ hJ1.2 hJ1.1 rfl

