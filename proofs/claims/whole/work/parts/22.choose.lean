
def HandS (s : Nat → Int) (ct : Nat → Nat) (pl : Nat → Nat → Int) (n i : Nat) (J : zJ) (a : Nat) : Prop := (∀ x, x < n → HTb s ct pl (htc J a) n x) ∧ (∀ b, b < i → (0 ≤ J (a + 5) b ∧ J (a + 5) b < 20) ∧ HCb s ct pl (htc J a) (hch J a) b) ∧ J a 3 = jsum s pl (hch J a) i
/-- a hand that has chosen -/
def HandOK (J : zJ) (a n : Nat) : Prop := HandS (hsz J a) (hct J a) (hpl J a) n n J a
theorem hch_eq {J J' : zJ} {a x : Nat} (h : J' (a + 5) x = J (a + 5) x) : hch J' a x = hch J a x := by unfold hch; rw [h]
theorem ch_none {s : Nat → Int} {ct : Nat → Nat} {pl : Nat → Nat → Int} {n i a : Nat} {J J1 : zJ} (h : HandS s ct pl n i J a) (hJ1 : J1 = zup J (a + 5) i 0) (hs : ¬ 0 < s i) : HandS s ct pl n (i + 1) J1 a := by
  obtain ⟨h1, h2, h3⟩ := h
  have et : htc J1 a = htc J a := funext fun b => funext fun k => by unfold htc; rw [hJ1, zup_ne (by omega)]
  have ec : ∀ x, x < i → hch J a x = hch J1 a x := fun x hx => by unfold hch; rw [hJ1, zup_ne (by omega)]
  have e0 : hch J1 a i = 0 := by unfold hch; rw [hJ1, zup_self]; rfl
  refine ⟨by rw [et]; exact h1, fun b hb => ?_, ?_⟩
  · by_cases e : b = i
    · subst e
      refine ⟨by rw [hJ1, zup_self]; omega, fun _ => e0, fun q => absurd q hs⟩
    · have := h2 b (by omega)
      refine ⟨by rw [hJ1, zup_ne (by omega)]; exact this.1, ?_⟩
      rw [et]; exact HCb_congr (fun x hx => ec x (by omega)) this.2
  · have ej : J1 a 3 = J a 3 := by rw [hJ1, zup_ne (by omega)]
    show J1 a 3 = jsum s pl (hch J1 a) i + (if 0 < s i then jf pl (hch J1 a) (pvF s i) i (hch J1 a i) else 0)
    rw [if_neg hs, ej, h3, jsum_congr ec]; omega
theorem ch_some {s : Nat → Int} {ct : Nat → Nat} {pl : Nat → Nat → Int} {n i a fb : Nat} {J J1 J2 J3 : zJ} (h : HandS s ct pl n i J a) (hJ1 : J1 = zup J (a + 5) i 0) (hs : 0 < s i) (hJ2 : J2 = zup J1 (a + 5) i (fb : Int)) (hJ3 : J3 = zup J2 a 3 (J2 a 3 + jf pl (hch J2 a) (pvF s i) i fb)) (hfb : isFst (ct i) (fun k => jf pl (hch J1 a) (pvF s i) i k + htc J1 a i k) fb) (h20 : fb < 20) : HandS s ct pl n (i + 1) J3 a := by
  obtain ⟨h1, h2, h3⟩ := h
  have et : htc J3 a = htc J a := funext fun b => funext fun k => by unfold htc; rw [hJ3, zup_ne (by omega), hJ2, zup_ne (by omega), hJ1, zup_ne (by omega)]
  have et1 : htc J1 a = htc J a := funext fun b => funext fun k => by unfold htc; rw [hJ1, zup_ne (by omega)]
  have ec : ∀ x, x < i → hch J a x = hch J3 a x := fun x hx => by unfold hch; rw [hJ3, zup_ne (by omega), hJ2, zup_ne (by omega), hJ1, zup_ne (by omega)]
  have ec1 : ∀ x, x < i → hch J1 a x = hch J3 a x := fun x hx => by unfold hch; rw [hJ3, zup_ne (by omega), hJ2, zup_ne (by omega)]
  have ec2 : ∀ x, x < i → hch J2 a x = hch J3 a x := fun x hx => by unfold hch; rw [hJ3, zup_ne (by omega)]
  have e0 : hch J3 a i = fb := by unfold hch; rw [hJ3, zup_ne (by omega), hJ2, zup_self]; simp
  refine ⟨by rw [et]; exact h1, fun b hb => ?_, ?_⟩
  · by_cases e : b = i
    · subst e
      refine ⟨by rw [hJ3, zup_ne (by omega), hJ2, zup_self]; omega, fun q => absurd hs q, fun _ => ?_⟩
      rw [e0, et, ← et1]
      have ef : (fun k => jf pl (hch J3 a) (pvF s b) b k + htc J1 a b k) = (fun k => jf pl (hch J1 a) (pvF s b) b k + htc J1 a b k) := funext fun k => by rw [jf_congr ec1 k]
      rw [ef]; exact hfb
    · have := h2 b (by omega)
      refine ⟨by rw [hJ3, zup_ne (by omega), hJ2, zup_ne (by omega), hJ1, zup_ne (by omega)]; exact this.1, ?_⟩
      rw [et]; exact HCb_congr (fun x hx => ec x (by omega)) this.2
  · have e3 : J2 a 3 = jsum s pl (hch J a) i := by rw [hJ2, zup_ne (by omega), hJ1, zup_ne (by omega), h3]
    have ej : J3 a 3 = jsum s pl (hch J a) i + jf pl (hch J2 a) (pvF s i) i fb := by rw [hJ3, zup_self, e3]
    show J3 a 3 = jsum s pl (hch J3 a) i + (if 0 < s i then jf pl (hch J3 a) (pvF s i) i (hch J3 a i) else 0)
    rw [if_pos hs, ej, jsum_congr ec, e0, jf_congr ec2]

theorem lpCho {G : gx_G} {X : gx_X} (hG : gx_OK G 76) (B : gx_B G X RX4 cX4_choose 4 rmX4_choose 76) {a n : Nat} (ha : isHand a) {J0 : zJ} (hP : HPre J0 a n) (Rt : gx_Rv G X (zpv (fun J' => HandOK J' a n ∧ CFr J0 J' a))) : ∀ i : Nat, i ≤ n → ∀ (J : zJ), CFr J0 J a → HandS (hsz J0 a) (hct J0 a) (hpl J0 a) n i J a → gx_WG G X 4 (zh J) 14 [(0, .ref (gx_ad G a)), (1, .int (zI (n : Int))), (2, .int (zI (pvF (hsz J0 a) i))), (3, .int (zI (i : Int)))] [] := by
  refine up_ind (fun i hi ih => ?_)
  intro J hfr hS
  have h8 := hP.1
  refine gx_iload_n B dX4_choose_14 rfl rfl ?_
  refine gx_iload_n B dX4_choose_15 rfl rfl ?_
  refine z_icmp_ge (tgt := 79) B dX4_choose_16 ⟨by omega, by omega⟩ ⟨by omega, by omega⟩ (by decide) (fun c16 => ?_) (fun c16 => ?_)
  · refine z_ret B Rt dX4_choose_79 ?_
    obtain rfl : i = n := by omega
    obtain ⟨e1, e2, e3⟩ := cfr_eq hfr
    refine ⟨?_, hfr⟩
    unfold HandOK
    rw [e1, e2, e3]
    exact hS
  · refine gx_aload_n B dX4_choose_19 rfl rfl ?_
    refine gx_getr (t := (a + 5)) B fl_X4_24 (kHand ha) (bHand ha) (rHand2 ha) dX4_choose_20 ?_
    refine gx_iload_n B dX4_choose_23 rfl rfl ?_
    refine z_iconst B dX4_choose_24 ?_
    refine z_iast i B (kHc ha) (cHc ha) rfl (show i < 8 by omega) (by decide) dX4_choose_25 (fun Jz hJz => ?_)
    have hfz : CFr J0 Jz a := fun x k h1 h2 h3 => by rw [hJz, zup_ne (by omega)]; exact hfr x k h1 h2 h3
    obtain ⟨e1, e2, e3⟩ := cfr_eq hfz
    have es : Jz (a + 15 + 2 * i) 2 = hsz J0 a i := hfz _ _ (by omega) (by omega) (by omega)
    have hs2 := hP.2 i (by omega)
    have hb9 : 0 ≤ hsz J0 a i ∧ hsz J0 a i ≤ 3 := ⟨hs2.2.2.1, hs2.2.2.2⟩
    refine gx_aload_n B dX4_choose_26 rfl rfl ?_
    refine gx_getr (t := (a + 4)) B fl_X4_20 (kHand ha) (bHand ha) (rHand1 ha) dX4_choose_27 ?_
    refine gx_iload_n B dX4_choose_30 rfl rfl ?_
    refine z_aald i (a + 15 + 2 * i) B (kHg ha) (cHg ha) rfl (show i < 8 by omega) (by decide) (rHg ha (show i < 8 by omega)) dX4_choose_31 ?_
    refine z_geti B fl_X4_61 (kGoods (gdH ha (show i < 8 by omega))) (bGoods (gdH ha (show i < 8 by omega))) (zGoods2 (gdH ha (show i < 8 by omega))) dX4_choose_32 ?_
    refine z_if_le (tgt := 73) B dX4_choose_35 ⟨by omega, by omega⟩ (by decide) (fun c35 => ?_) (fun c35 => ?_)
    · have hs0 : ¬ 0 < hsz J0 a i := by omega
      refine z_iinc (fun v9 => [(0, .ref (gx_ad G a)), (1, .int (zI (n : Int))), (2, .int (zI (pvF (hsz J0 a) i))), (3, .int (zI v9))]) B dX4_choose_73 rfl (by decide) rfl (fun _ => rfl) (fun v3 hv3 => ?_)
      rw [show v3 = ((i + 1 : Nat) : Int) from (by omega)]
      refine gx_goto (tgt := 14) B dX4_choose_76 (by decide) ?_
      have h9 := ih (by omega) Jz hfz (ch_none hS hJz hs0)
      have e : pvF (hsz J0 a) (i + 1) = pvF (hsz J0 a) i := by
        show (if 0 < hsz J0 a i then _ else _) = _
        rw [if_neg hs0]
      rw [e] at h9
      exact h9
    · have hs0 : 0 < hsz J0 a i := by omega
      have hpl0 := pvF_lt (s := hsz J0 a) i
      have hpv : pvF (hsz J0 a) i = -1 ∨ (0 ≤ pvF (hsz J0 a) i ∧ pvF (hsz J0 a) i < n ∧ 0 ≤ Jz (a + 5) (pvF (hsz J0 a) i).toNat ∧ Jz (a + 5) (pvF (hsz J0 a) i).toNat < 20) := by
        rcases hpl0 with h | h
        · exact Or.inl h
        · have h5 := (hS.2.1 (pvF (hsz J0 a) i).toNat (by omega)).1
          refine Or.inr ⟨h.1, by omega, ?_⟩
          rw [hJz, zup_ne (by omega)]; exact h5
      have htz : htc Jz a = htc J a := funext fun b => funext fun k => by unfold htc; rw [hJz, zup_ne (by omega)]
      have hth : ∀ j, j < hct Jz a i → 0 ≤ htc Jz a i j ∧ htc Jz a i j ≤ 1000 := fun j hj => by
        rw [e2] at hj
        have h6 := (hS.1 i (by omega) hs0 j hj).1
        rw [htz]; omega
      have hci := hP.ct (b := i) (by omega)
      obtain ⟨fb, hfb0⟩ : ∃ fb : Nat, fb = (fbN (fun k => jfc Jz a (hch Jz a) (pvF (hsz J0 a) i) i k + htc Jz a i k) (hct Jz a i)).2 := ⟨_, rfl⟩
      have hfbe : (fb : Int) = ((fbN (fun k => jfc Jz a (hch Jz a) (pvF (hsz J0 a) i) i k + htc Jz a i k) (hct Jz a i)).2 : Int) := by rw [hfb0]
      have hfst : isFst (hct J0 a i) (fun k => jf (hpl J0 a) (hch Jz a) (pvF (hsz J0 a) i) i k + htc Jz a i k) fb := by
        have h7 := ((fbN_is (f := (fun k => jfc Jz a (hch Jz a) (pvF (hsz J0 a) i) i k + htc Jz a i k)) (n := hct Jz a i) (fun k hk => by have h1 := jfc_le Jz a (hch Jz a) (pvF (hsz J0 a) i) i k; have h2 := hth k hk; show jfc Jz a (hch Jz a) (pvF (hsz J0 a) i) i k + htc Jz a i k < _; omega)).2 (by rw [e2]; omega)).1
        rw [← hfb0, e2] at h7
        have ef : (fun k => jfc Jz a (hch Jz a) (pvF (hsz J0 a) i) i k + htc Jz a i k) = (fun k => jf (hpl J0 a) (hch Jz a) (pvF (hsz J0 a) i) i k + htc Jz a i k) := by rw [← e3]; rfl
        rw [ef] at h7; exact h7
      have h20 : fb < 20 := by have := hfst.1; omega
      refine gx_aload_n B dX4_choose_38 rfl rfl ?_
      refine gx_getr (t := (a + 5)) B fl_X4_24 (kHand ha) (bHand ha) (rHand2 ha) dX4_choose_39 ?_
      refine gx_iload_n B dX4_choose_42 rfl rfl ?_
      refine gx_aload_n B dX4_choose_43 rfl rfl ?_
      refine gx_iload_n B dX4_choose_44 rfl rfl ?_
      refine gx_iload_n B dX4_choose_45 rfl rfl ?_
      refine z_callVi [.int (zI (pvF (hsz J0 a) i)), .int (zI (i : Int))] B lv_X4_64 (by have h9 := mX4_firstBest (l := gx_la X) hG ha Jz (b := i) (n := n) (hP.keep hfz) (by omega) (pv := pvF (hsz J0 a) i) hpv (fun j hj => hth j hj); rw [← hfbe] at h9; exact h9) (kHand ha) (bHand ha) rfl rfl (Nat.le_of_ble_eq_true rfl) (by decide) (by decide) dX4_choose_46 (fun r2 J1 hJ1 => ?_)
      rw [show r2 = (fb : Int) from hJ1.1, hJ1.2]
      refine z_iast i B (kHc ha) (cHc ha) rfl (show i < 8 by omega) (by decide) dX4_choose_49 (fun Jc hJc => ?_)
      have hpv2 : pvF (hsz J0 a) i = -1 ∨ (0 ≤ pvF (hsz J0 a) i ∧ pvF (hsz J0 a) i < n ∧ 0 ≤ Jc (a + 5) (pvF (hsz J0 a) i).toNat ∧ Jc (a + 5) (pvF (hsz J0 a) i).toNat < 20) := by
        rcases hpv with h | h
        · exact Or.inl h
        · rcases hpl0 with h0 | h0
          · exact Or.inl h0
          · refine Or.inr ⟨h.1, h.2.1, ?_⟩
            rw [hJc, zup_ne (by omega)]; exact h.2.2
      have ejf : jfc Jc a (hch Jc a) (pvF (hsz J0 a) i) i fb = jf (hpl J0 a) (hch Jc a) (pvF (hsz J0 a) i) i fb := by
        have hfc : CFr J0 Jc a := fun x k h1 h2 h3 => by rw [hJc, zup_ne (by omega)]; exact hfz x k h1 h2 h3
        rw [← (cfr_eq hfc).2.2]; rfl
      refine gx_aload_n B dX4_choose_50 rfl rfl ?_
      refine gx_dup B dX4_choose_51 rfl ?_
      refine z_geti B fl_X4_28 (kHand ha) (bHand ha) (zHand3 ha) dX4_choose_52 ?_
      refine gx_aload_n B dX4_choose_55 rfl rfl ?_
      refine gx_iload_n B dX4_choose_56 rfl rfl ?_
      refine gx_iload_n B dX4_choose_57 rfl rfl ?_
      refine gx_aload_n B dX4_choose_58 rfl rfl ?_
      refine gx_getr (t := (a + 5)) B fl_X4_24 (kHand ha) (bHand ha) (rHand2 ha) dX4_choose_59 ?_
      refine gx_iload_n B dX4_choose_62 rfl rfl ?_
      refine z_iald i B (kHc ha) (cHc ha) rfl (show i < 8 by omega) (by decide) dX4_choose_63 ?_
      rw [show Jc (a + 5) i = (fb : Int) from (by rw [hJc, zup_self])]
      refine z_callVi [.int (zI (pvF (hsz J0 a) i)), .int (zI (i : Int)), .int (zI (fb : Int))] B lv_X4_68 (by have h9 := mX4_jumpFromChosen (l := gx_la X) hG ha Jc (b := i) (n := n) (k := fb) hP.1 (by omega) h20 (pv := pvF (hsz J0 a) i) hpv2; rw [ejf] at h9; exact h9) (kHand ha) (bHand ha) rfl rfl (Nat.le_of_ble_eq_true rfl) (by decide) (by decide) dX4_choose_64 (fun r4 J3 hJ3 => ?_)
      rw [show r4 = jf (hpl J0 a) (hch Jc a) (pvF (hsz J0 a) i) i fb from hJ3.1, hJ3.2]
      refine z_iadd B dX4_choose_67 ?_
      refine z_puti B fw_X4_28 (kHand ha) (bHand ha) (zHand3 ha) dX4_choose_68 (fun Jj hJj => ?_)
      refine gx_iload_n B dX4_choose_71 rfl rfl ?_
      refine z_istore_n (fun v9 => [(0, .ref (gx_ad G a)), (1, .int (zI (n : Int))), (2, .int (zI v9)), (3, .int (zI (i : Int)))]) B dX4_choose_72 rfl (by decide) rfl (fun _ => rfl) (fun v2 hv2 => ?_)
      rw [show v2 = (i : Int) from (by omega)]
      refine z_iinc (fun v9 => [(0, .ref (gx_ad G a)), (1, .int (zI (n : Int))), (2, .int (zI (i : Int))), (3, .int (zI v9))]) B dX4_choose_73 rfl (by decide) rfl (fun _ => rfl) (fun v3 hv3 => ?_)
      rw [show v3 = ((i + 1 : Nat) : Int) from (by omega)]
      refine gx_goto (tgt := 14) B dX4_choose_76 (by decide) ?_
      have h9 := ih (by omega) Jj (fun x k h1 h2 h3 => by rw [hJj, zup_ne h3, hJc, zup_ne (by omega)]; exact hfz x k h1 h2 h3) (ch_some hS hJz hs0 hJc hJj hfst h20)
      have e : pvF (hsz J0 a) (i + 1) = (i : Int) := by
        show (if 0 < hsz J0 a i then _ else _) = _
        rw [if_pos hs0]
      rw [e] at h9
      exact h9

theorem mX4_choose {l : Launch} {G : gx_G} (hG : gx_OK G 76) {a n : Nat} (ha : isHand a) (J : zJ) (hP : HPre J a n) : zMv l G yX4_choose cX4_choose 4 rmX4_choose [.ref (gx_ad G a), .int (zI (n : Int))] J (fun J' => HandOK J' a n ∧ CFr J J' a) := by
  refine gx_mv hG (by decide) (Nat.le_of_ble_eq_true rfl) (fun X hla B Rt => ?_)
  subst hla
  have B : gx_B G X RX4 cX4_choose 4 rmX4_choose 76 := B
  show gx_WG G X 4 (zh J) 0 [(0, .ref (gx_ad G a)), (1, .int (zI (n : Int)))] []
  refine gx_aload_n B dX4_choose_0 rfl rfl ?_
  refine gx_iload_n B dX4_choose_1 rfl rfl ?_
  refine z_callVv [.int (zI (n : Int))] B lv_X4_57 (mX4_lookAhead hG ha J hP) (kHand ha) (bHand ha) rfl rfl (Nat.le_of_ble_eq_true rfl) (by decide) (by decide) dX4_choose_2 (fun J1 hJ1 => ?_)
  refine gx_aload_n B dX4_choose_5 rfl rfl ?_
  refine z_iconst B dX4_choose_6 ?_
  refine z_puti B fw_X4_28 (kHand ha) (bHand ha) (zHand3 ha) dX4_choose_7 (fun J2 hJ2 => ?_)
  refine z_iconst B dX4_choose_10 ?_
  refine z_istore_n (fun v9 => [(0, .ref (gx_ad G a)), (1, .int (zI (n : Int))), (2, .int (zI v9))]) B dX4_choose_11 rfl (by decide) rfl (fun _ => rfl) (fun v2 hv2 => ?_)
  rw [show v2 = pvF (hsz J a) 0 from (by rw [hv2]; rfl)]
  refine z_iconst B dX4_choose_12 ?_
  refine z_istore_n (fun v9 => [(0, .ref (gx_ad G a)), (1, .int (zI (n : Int))), (2, .int (zI (pvF (hsz J a) 0))), (3, .int (zI v9))]) B dX4_choose_13 rfl (by decide) rfl (fun _ => rfl) (fun v3 hv3 => ?_)
  rw [show v3 = ((0 : Nat) : Int) from (by omega)]
  refine lpCho hG B ha hP Rt 0 (by omega) J2 (fun x k h1 h2 h3 => by rw [hJ2, zup_ne h3]; exact hJ1.2 x k h1) ⟨?_, fun b hb => by omega, by rw [hJ2, zup_self]; rfl⟩
  have et : htc J2 a = htc J1 a := funext fun b => funext fun k => by unfold htc; rw [hJ2, zup_ne (by omega)]
  rw [et]; exact hJ1.1

