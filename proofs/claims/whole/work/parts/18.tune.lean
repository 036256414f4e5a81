
theorem cblN_pos {rows : Int} {i : Nat} (h1 : 2 ≤ i % 6) (h2 : thr rows i) : cblN rows (i + 1) = cblN rows i ++ [i] := by
  unfold cblN
  rw [List.range_succ, List.filter_append]
  have : (decide (2 ≤ i % 6) && decide (thr rows i)) = true := by rw [decide_eq_true h1, decide_eq_true h2]; rfl
  simp [this]
theorem cblN_neg {rows : Int} {i : Nat} (h : ¬ (2 ≤ i % 6 ∧ thr rows i)) : cblN rows (i + 1) = cblN rows i := by
  unfold cblN
  rw [List.range_succ, List.filter_append]
  have : (decide (2 ≤ i % 6) && decide (thr rows i)) = false := by
    rw [Bool.and_eq_false_iff]
    by_cases h1 : 2 ≤ i % 6
    · exact Or.inr (decide_eq_false (fun q => h ⟨h1, q⟩))
    · exact Or.inl (decide_eq_false h1)
  simp [this]
theorem snocD {l : List Nat} {x k : Nat} (h : k < (l ++ [x]).length) : (l ++ [x]).getD k 0 = if k < l.length then l.getD k 0 else x := by
  simp only [List.length_append, List.length_cons, List.length_nil] at h
  simp only [List.getD_eq_getElem?_getD]
  by_cases e : k < l.length
  · rw [if_pos e, List.getElem?_append_left e]
  · rw [if_neg e, List.getElem?_append_right (by omega), show k - l.length = 0 by omega]
    rfl
def TunedN (J : zJ) (d : Nat) (base rows : Int) (n : Nat) : Prop := (∀ a : Nat, a < n → J (d + 1) a = ntc base rows a) ∧ J d 2 = ((cblN rows n).length : Int) ∧ ∀ i, i < (cblN rows n).length → J (d + 2) i = ((cblN rows n).getD i 0 : Int)
abbrev BFr (J J' : zJ) (d : Nat) : Prop := ∀ a k, a ≠ d + 1 → a ≠ d + 2 → ¬ (a = d ∧ k = 2) → J' a k = J a k
theorem tune_no {J : zJ} {d i : Nat} {base rows v : Int} (h : TunedN J d base rows i) (hv : v = ntc base rows i) (hc : ¬ (2 ≤ i % 6 ∧ thr rows i)) : TunedN (zup J (d + 1) i v) d base rows (i + 1) := by
  obtain ⟨h1, h2, h3⟩ := h
  refine ⟨fun a ha => ?_, ?_, fun k hk => ?_⟩
  · by_cases e : a = i
    · rw [e, zup_self]; exact hv
    · rw [zup_ne (by omega)]; exact h1 a (by omega)
  · rw [zup_ne (by omega), cblN_neg hc]; exact h2
  · rw [cblN_neg hc] at hk ⊢
    rw [zup_ne (by omega)]; exact h3 k hk
theorem tune_yes {J : zJ} {d i : Nat} {base rows v : Int} (h : TunedN J d base rows i) (hv : v = ntc base rows i) (h6 : 2 ≤ i % 6) (hc : thr rows i) : TunedN (zup (zup (zup J (d + 1) i v) (d + 2) (cblN rows i).length (i : Int)) d 2 (((cblN rows i).length : Int) + 1)) d base rows (i + 1) := by
  obtain ⟨h1, h2, h3⟩ := h
  refine ⟨fun a ha => ?_, ?_, fun k hk => ?_⟩
  · rw [zup_ne (by omega), zup_ne (by omega)]
    by_cases e : a = i
    · rw [e, zup_self]; exact hv
    · rw [zup_ne (by omega)]; exact h1 a (by omega)
  · rw [zup_self, cblN_pos h6 hc]; simp
  · rw [cblN_pos h6 hc] at hk ⊢
    rw [snocD hk, zup_ne (by omega)]
    by_cases e : k < (cblN rows i).length
    · rw [if_pos e, zup_ne (by omega), zup_ne (by omega)]; exact h3 k e
    · simp only [List.length_append, List.length_cons, List.length_nil] at hk
      rw [if_neg e, show k = (cblN rows i).length by omega, zup_self]

theorem lpTune {G : gx_G} {X : gx_X} (hG : gx_OK G 76) (B : gx_B G X RX1 cX1_tune 6 rmX1_tune 76) {d : Nat} (hd : isBoard d) {J0 : zJ} {base rows : Int} (hb0 : 0 ≤ base) (hb1 : base < 12) (Rt : gx_Rv G X (zpv (fun J' => Tuned J' d base rows ∧ BFr J0 J' d))) : ∀ i : Nat, i ≤ 72 → ∀ (J : zJ), TunedN J d base rows i → BFr J0 J d → gx_WG G X 6 (zh J) 7 [(0, .ref (gx_ad G d)), (1, .int (zI base)), (2, .int (zI rows)), (3, .int (zI (i : Int)))] [] := by
  refine up_ind (fun i hi ih => ?_)
  intro J hT hfr
  have hz : zrem (i : Int) 6 = ((i % 6 : Nat) : Int) := by rw [zrem_nn (by omega) (by omega) (by omega) (by omega)]; omega
  refine gx_iload_n B dX1_tune_7 rfl rfl ?_
  refine z_bipush B dX1_tune_8 (by decide) ?_
  refine z_icmp_ge (tgt := 114) B dX1_tune_10 ⟨by omega, by omega⟩ ⟨by omega, by omega⟩ (by decide) (fun c10 => ?_) (fun c10 => ?_)
  · refine z_ret B Rt dX1_tune_114 ?_
    obtain rfl : i = 72 := by omega
    exact ⟨hT, hfr⟩
  · refine gx_iload_n B dX1_tune_13 rfl rfl ?_
    refine z_bipush B dX1_tune_14 (by decide) ?_
    refine z_irem B dX1_tune_16 (by decide) ?_
    refine z_istore (fun v9 => [(0, .ref (gx_ad G d)), (1, .int (zI base)), (2, .int (zI rows)), (3, .int (zI (i : Int))), (4, .int (zI v9))]) B dX1_tune_17 (by decide) rfl (fun _ => rfl) (fun v4 hv4 => ?_)
    rw [show v4 = ((i % 6 : Nat) : Int) from (by rw [hv4]; exact hz)]
    refine gx_iload_n B dX1_tune_19 rfl rfl ?_
    refine gx_iload B dX1_tune_20 rfl ?_
    refine z_ishr B dX1_tune_22 ?_
    refine z_iconst B dX1_tune_23 ?_
    refine z_iand B dX1_tune_24 ?_
    refine z_iconst B dX1_tune_25 ?_
    refine z_icmp_ne (tgt := 33) B dX1_tune_26 (zandB _ _) ⟨by omega, by omega⟩ (by decide) (fun c26 => ?_) (fun c26 => ?_)
    · have ht : ¬ thr rows i := by unfold thr; rw [hz]; exact c26
      have hv0 : (0 : Int) = ntc base rows i := by unfold ntc; rw [if_neg ht]
      refine z_iconst B dX1_tune_33 ?_
      refine z_istore (fun v9 => [(0, .ref (gx_ad G d)), (1, .int (zI base)), (2, .int (zI rows)), (3, .int (zI (i : Int))), (4, .int (zI ((i % 6 : Nat) : Int))), (5, .int (zI v9))]) B dX1_tune_34 (by decide) rfl (fun _ => rfl) (fun v9 hv9 => ?_)
      rw [hv9]
      refine gx_aload_n B dX1_tune_36 rfl rfl ?_
      refine gx_getr (t := (d + 1)) B fl_X1_9 (kBoard hd) (bBoard hd) (rBoard0 hd) dX1_tune_37 ?_
      refine gx_iload_n B dX1_tune_40 rfl rfl ?_
      refine gx_iload B dX1_tune_41 rfl ?_
      refine z_if_eq (tgt := 66) B dX1_tune_43 ⟨by omega, by omega⟩ (by decide) (fun c43_1 => ?_) (fun c43_1 => ?_)
      · refine z_iconst B dX1_tune_66 ?_
        refine z_iast i B (aBoard1 hd) (cBoard1 hd) rfl (show i < 72 by omega) (by decide) dX1_tune_67 (fun JN hJN => ?_)
        refine gx_iload B dX1_tune_68 rfl ?_
        refine z_if_eq (tgt := 108) B dX1_tune_70 ⟨by omega, by omega⟩ (by decide) (fun c70_2 => ?_) (fun c70_2 => ?_)
        · refine z_iinc (fun v9 => [(0, .ref (gx_ad G d)), (1, .int (zI base)), (2, .int (zI rows)), (3, .int (zI v9)), (4, .int (zI ((i % 6 : Nat) : Int))), (5, .int (zI 0))]) B dX1_tune_108 rfl (by decide) rfl (fun _ => rfl) (fun v3 hv3 => ?_)
          rw [show v3 = ((i + 1 : Nat) : Int) from (by omega)]
          refine gx_goto (tgt := 7) B dX1_tune_111 (by decide) ?_
          refine gx_sub [0, 1, 2, 3] rfl ?_
          refine ih (by omega) JN ?_ (fun a k h1 h2 h3 => ?_)
          · rw [hJN]
            exact tune_no hT hv0 (by first | exact (fun q => ht q.2) | omega)
          · rw [hJN, zup_ne (by omega)]; exact hfr a k h1 h2 h3
        · exact absurd c70_2 (by decide)
      · exact absurd c43_1 (by decide)
    · have ht : thr rows i := by unfold thr; rw [hz]; exact c26
      have hv0 : zand (zor (zshl (z_rowN (i % 6)) (zrem (base + 7 * zdiv (i : Int) 6) 12)) (zshr (z_rowN (i % 6)) (12 - zrem (base + 7 * zdiv (i : Int) 6) 12))) 4095 = ntc base rows i := by
        unfold ntc
        rw [if_pos ht, ← (snd_eq hb0 hb1 (show i < 72 by omega)).1]
        unfold sndC
        rw [hz, Int.toNat_natCast]
      refine z_iconst B dX1_tune_29 ?_
      refine gx_goto (tgt := 34) B dX1_tune_30 (by decide) ?_
      refine z_istore (fun v9 => [(0, .ref (gx_ad G d)), (1, .int (zI base)), (2, .int (zI rows)), (3, .int (zI (i : Int))), (4, .int (zI ((i % 6 : Nat) : Int))), (5, .int (zI v9))]) B dX1_tune_34 (by decide) rfl (fun _ => rfl) (fun v9 hv9 => ?_)
      rw [hv9]
      refine gx_aload_n B dX1_tune_36 rfl rfl ?_
      refine gx_getr (t := (d + 1)) B fl_X1_9 (kBoard hd) (bBoard hd) (rBoard0 hd) dX1_tune_37 ?_
      refine gx_iload_n B dX1_tune_40 rfl rfl ?_
      refine gx_iload B dX1_tune_41 rfl ?_
      refine z_if_eq (tgt := 66) B dX1_tune_43 ⟨by omega, by omega⟩ (by decide) (fun c43_3 => ?_) (fun c43_3 => ?_)
      · exact absurd c43_3 (by decide)
      · refine gx_getRow B rfl dX1_tune_46 ?_
        refine gx_iload B dX1_tune_49 rfl ?_
        refine z_rowAt (i % 6) B rfl (show i % 6 < 6 by omega) dX1_tune_51 ?_
        refine gx_iload_n B dX1_tune_52 rfl rfl ?_
        refine gx_iload_n B dX1_tune_53 rfl rfl ?_
        refine z_bipush B dX1_tune_54 (by decide) ?_
        refine z_idiv B dX1_tune_56 (by decide) ?_
        refine z_callRoot [.int (zI base), .int (zI (zdiv (i : Int) 6))] B rfl (mX5_rootOf hG J (a := base) (b := zdiv (i : Int) 6)) rfl rfl (Nat.le_of_ble_eq_true rfl) (by decide) (by decide) dX1_tune_57 (fun r5 J4 hJ4 => ?_)
        rw [show r5 = zrem (base + 7 * (zdiv (i : Int) 6)) 12 from hJ4.1, hJ4.2]
        refine z_callSi [.int (zI (z_rowN (i % 6))), .int (zI (zrem (base + 7 * (zdiv (i : Int) 6)) 12))] B ls_X1_29 (mX1_raised hG J (a := z_rowN (i % 6)) (b := zrem (base + 7 * (zdiv (i : Int) 6)) 12)) rfl rfl (Nat.le_of_ble_eq_true rfl) (by decide) (by decide) dX1_tune_60 (fun r7 J6 hJ6 => ?_)
        rw [show r7 = zand (zor (zshl (z_rowN (i % 6)) (zrem (base + 7 * (zdiv (i : Int) 6)) 12)) (zshr (z_rowN (i % 6)) (12 - (zrem (base + 7 * (zdiv (i : Int) 6)) 12)))) 4095 from hJ6.1, hJ6.2]
        refine gx_goto (tgt := 67) B dX1_tune_63 (by decide) ?_
        refine z_iast i B (aBoard1 hd) (cBoard1 hd) rfl (show i < 72 by omega) (by decide) dX1_tune_67 (fun JN hJN => ?_)
        refine gx_iload B dX1_tune_68 rfl ?_
        refine z_if_eq (tgt := 108) B dX1_tune_70 ⟨by omega, by omega⟩ (by decide) (fun c70_8 => ?_) (fun c70_8 => ?_)
        · exact absurd c70_8 (by decide)
        · refine gx_iload B dX1_tune_73 rfl ?_
          refine z_iconst B dX1_tune_75 ?_
          refine z_icmp_lt (tgt := 108) B dX1_tune_76 ⟨by omega, by omega⟩ ⟨by omega, by omega⟩ (by decide) (fun c76 => ?_) (fun c76 => ?_)
          · refine z_iinc (fun v9 => [(0, .ref (gx_ad G d)), (1, .int (zI base)), (2, .int (zI rows)), (3, .int (zI v9)), (4, .int (zI ((i % 6 : Nat) : Int))), (5, .int (zI 1))]) B dX1_tune_108 rfl (by decide) rfl (fun _ => rfl) (fun v3 hv3 => ?_)
            rw [show v3 = ((i + 1 : Nat) : Int) from (by omega)]
            refine gx_goto (tgt := 7) B dX1_tune_111 (by decide) ?_
            refine gx_sub [0, 1, 2, 3] rfl ?_
            refine ih (by omega) JN ?_ (fun a k h1 h2 h3 => ?_)
            · rw [hJN]
              exact tune_no hT hv0 (by first | exact (fun q => ht q.2) | omega)
            · rw [hJN, zup_ne (by omega)]; exact hfr a k h1 h2 h3
          · refine gx_aload_n B dX1_tune_79 rfl rfl ?_
            refine z_geti B fl_X1_18 (kBoard hd) (bBoard hd) (zBoard2 hd) dX1_tune_80 ?_
            refine z_bipush B dX1_tune_83 (by decide) ?_
            have eN2 : JN d 2 = ((cblN rows i).length : Int) := by rw [hJN, zup_ne (by omega)]; exact hT.2.1
            have hlen : (cblN rows i).length < 48 := by
              have h9 : (cblN rows (i + 1)).length ≤ 48 := cbl_len (by omega)
              rw [cblN_pos (by omega) ht, List.length_append] at h9
              simp at h9
              omega
            refine z_icmp_ge (tgt := 108) B dX1_tune_85 ⟨by rw [eN2]; omega, by rw [eN2]; omega⟩ ⟨by omega, by omega⟩ (by decide) (fun c85 => ?_) (fun c85 => ?_)
            · exact absurd c85 (by rw [eN2]; omega)
            · refine gx_aload_n B dX1_tune_88 rfl rfl ?_
              refine gx_getr (t := (d + 2)) B fl_X1_15 (kBoard hd) (bBoard hd) (rBoard1 hd) dX1_tune_89 ?_
              refine gx_aload_n B dX1_tune_92 rfl rfl ?_
              refine z_geti B fl_X1_18 (kBoard hd) (bBoard hd) (zBoard2 hd) dX1_tune_93 ?_
              refine gx_iload_n B dX1_tune_96 rfl rfl ?_
              refine z_iast ((JN d 2).toNat) B (aBoard2 hd) (cBoard2 hd) (by rw [eN2]; omega) (by rw [eN2]; omega) (by decide) dX1_tune_97 (fun JB hJB => ?_)
              refine gx_aload_n B dX1_tune_98 rfl rfl ?_
              refine gx_dup B dX1_tune_99 rfl ?_
              refine z_geti B fl_X1_18 (kBoard hd) (bBoard hd) (zBoard2 hd) dX1_tune_100 ?_
              refine z_iconst B dX1_tune_103 ?_
              refine z_iadd B dX1_tune_104 ?_
              refine z_puti B fw_X1_18 (kBoard hd) (bBoard hd) (zBoard2 hd) dX1_tune_105 (fun JK hJK => ?_)
              refine z_iinc (fun v9 => [(0, .ref (gx_ad G d)), (1, .int (zI base)), (2, .int (zI rows)), (3, .int (zI v9)), (4, .int (zI ((i % 6 : Nat) : Int))), (5, .int (zI 1))]) B dX1_tune_108 rfl (by decide) rfl (fun _ => rfl) (fun v3 hv3 => ?_)
              rw [show v3 = ((i + 1 : Nat) : Int) from (by omega)]
              refine gx_goto (tgt := 7) B dX1_tune_111 (by decide) ?_
              refine gx_sub [0, 1, 2, 3] rfl ?_
              have e2 : JN d 2 = ((cblN rows i).length : Int) := by rw [hJN, zup_ne (by omega)]; exact hT.2.1
              have e3 : JB d 2 = ((cblN rows i).length : Int) := by rw [hJB, zup_ne (by omega)]; exact e2
              refine ih (by omega) JK ?_ (fun a k h1 h2 h3 => ?_)
              · rw [hJK, e3, hJB, e2, Int.toNat_natCast, hJN]
                exact tune_yes hT hv0 (by omega) ht
              · rw [hJK, zup_ne h3, hJB, zup_ne (by omega), hJN, zup_ne (by omega)]; exact hfr a k h1 h2 h3

theorem mX1_tune {l : Launch} {G : gx_G} (hG : gx_OK G 76) {d : Nat} (hd : isBoard d) (J : zJ) {base rows : Int} (hb0 : 0 ≤ base) (hb1 : base < 12) : zMv l G yX1_tune cX1_tune 6 rmX1_tune [.ref (gx_ad G d), .int (zI base), .int (zI rows)] J (fun J' => Tuned J' d base rows ∧ BFr J J' d) := by
  refine gx_mv hG (by decide) (Nat.le_of_ble_eq_true rfl) (fun X hla B Rt => ?_)
  subst hla
  have B : gx_B G X RX1 cX1_tune 6 rmX1_tune 76 := B
  show gx_WG G X 6 (zh J) 0 [(0, .ref (gx_ad G d)), (1, .int (zI base)), (2, .int (zI rows))] []
  refine gx_aload_n B dX1_tune_0 rfl rfl ?_
  refine z_iconst B dX1_tune_1 ?_
  refine z_puti B fw_X1_18 (kBoard hd) (bBoard hd) (zBoard2 hd) dX1_tune_2 (fun J1 hJ1 => ?_)
  refine z_iconst B dX1_tune_5 ?_
  refine z_istore_n (fun v9 => [(0, .ref (gx_ad G d)), (1, .int (zI base)), (2, .int (zI rows)), (3, .int (zI v9))]) B dX1_tune_6 rfl (by decide) rfl (fun _ => rfl) (fun v9 hv9 => ?_)
  rw [hv9]
  refine lpTune hG B hd hb0 hb1 Rt 0 (by omega) J1 ⟨fun a ha => by omega, by rw [hJ1, zup_self]; rfl, fun k hk => by simp [cblN] at hk⟩ (fun a k h1 h2 h3 => by rw [hJ1, zup_ne h3])


/-- the place i of a code of n buttons *)-/
def digZ (n : Int) (c i : Int) : Int := zand (zshr c (7 * (n - 1 - i))) 127

theorem mX3_buttonAt {l : Launch} {G : gx_G} (hG : gx_OK G 76) {g : Nat} (hg : isGoods g) (J : zJ) {k : Nat} (hk : k < 20) {i : Int} : zMi l G yX3_buttonAt cX3_buttonAt 3 .int rmX3_buttonAt [.ref (gx_ad G g), .int (zI (k : Int)), .int (zI i)] J (fun r J' => r = digZ (J g 2) (J (g + 1) k) i ∧ J' = J) := by
  refine gx_mi hG (by decide) (Nat.le_of_ble_eq_true rfl) (fun X hla B Rt => ?_)
  subst hla
  have B : gx_B G X RX3 cX3_buttonAt 3 rmX3_buttonAt 76 := B
  show gx_WG G X 3 (zh J) 0 [(0, .ref (gx_ad G g)), (1, .int (zI (k : Int))), (2, .int (zI i))] []
  refine gx_aload_n B dX3_buttonAt_0 rfl rfl ?_
  refine gx_getr (t := (g + 1)) B fl_X3_9 (kGoods hg) (bGoods hg) (rGoods0 hg) dX3_buttonAt_1 ?_
  refine gx_iload_n B dX3_buttonAt_4 rfl rfl ?_
  refine z_iald k B (aGoods hg) (cGoods hg) rfl hk (by decide) dX3_buttonAt_5 ?_
  refine z_bipush B dX3_buttonAt_6 (by decide) ?_
  refine gx_aload_n B dX3_buttonAt_8 rfl rfl ?_
  refine z_geti B fl_X3_19 (kGoods hg) (bGoods hg) (zGoods2 hg) dX3_buttonAt_9 ?_
  refine z_iconst B dX3_buttonAt_12 ?_
  refine z_isub B dX3_buttonAt_13 ?_
  refine gx_iload_n B dX3_buttonAt_14 rfl rfl ?_
  refine z_isub B dX3_buttonAt_15 ?_
  refine z_imul B dX3_buttonAt_16 ?_
  refine z_ishr B dX3_buttonAt_17 ?_
  refine z_bipush B dX3_buttonAt_18 (by decide) ?_
  refine z_iand B dX3_buttonAt_20 ?_
  refine z_ireti B Rt dX3_buttonAt_21 ?_
  exact ⟨rfl, rfl⟩

theorem mX3_placeOf {l : Launch} {G : gx_G} (hG : gx_OK G 76) {g : Nat} (hg : isGoods g) (J : zJ) {k : Nat} (hk : k < 20) : zMi l G yX3_placeOf cX3_placeOf 2 .int rmX3_placeOf [.ref (gx_ad G g), .int (zI (k : Int))] J (fun r J' => r = zdiv (digZ (J g 2) (J (g + 1) k) 0) 6 ∧ J' = J) := by
  refine gx_mi hG (by decide) (Nat.le_of_ble_eq_true rfl) (fun X hla B Rt => ?_)
  subst hla
  have B : gx_B G X RX3 cX3_placeOf 2 rmX3_placeOf 76 := B
  show gx_WG G X 2 (zh J) 0 [(0, .ref (gx_ad G g)), (1, .int (zI (k : Int)))] []
  refine gx_aload_n B dX3_placeOf_0 rfl rfl ?_
  refine gx_iload_n B dX3_placeOf_1 rfl rfl ?_
  refine z_iconst B dX3_placeOf_2 ?_
  refine z_callVi [.int (zI (k : Int)), .int (zI 0)] B lv_X3_97 (mX3_buttonAt hG hg J (k := k) hk (i := 0)) (kGoods hg) (bGoods hg) rfl rfl (Nat.le_of_ble_eq_true rfl) (by decide) (by decide) dX3_placeOf_3 (fun r2 J1 hJ1 => ?_)
  rw [show r2 = digZ (J g 2) (J (g + 1) k) 0 from hJ1.1, hJ1.2]
  refine z_bipush B dX3_placeOf_6 (by decide) ?_
  refine z_idiv B dX3_placeOf_8 (by decide) ?_
  refine z_ireti B Rt dX3_placeOf_9 ?_
  exact ⟨rfl, rfl⟩

