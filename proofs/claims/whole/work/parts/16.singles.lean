
/-- the chord buttons that are there, below n -/
def cblN (rows : Int) (n : Nat) : List Nat := (List.range n).filter (fun (a : Nat) => decide (2 ≤ a % 6) && decide (thr rows a))
abbrev cbl (rows : Int) : List Nat := cblN rows 72
def ntc (base rows : Int) (a : Nat) : Int := if thr rows a then snd base a else 0
/-- a board that is tuned -/
def Tuned (J : zJ) (d : Nat) (base rows : Int) : Prop := (∀ a : Nat, a < 72 → J (d + 1) a = ntc base rows a) ∧ J d 2 = ((cbl rows).length : Int) ∧ ∀ i, i < (cbl rows).length → J (d + 2) i = ((cbl rows).getD i 0 : Int)
theorem cblN_mem {rows : Int} {n a : Nat} (h : a ∈ cblN rows n) : a < n ∧ 2 ≤ a % 6 ∧ thr rows a := by
  have := List.mem_filter.mp h
  simp only [Bool.and_eq_true, decide_eq_true_eq, List.mem_range] at this
  exact ⟨this.1, this.2.1, this.2.2⟩
theorem cbl_at {rows : Int} {i : Nat} (h : i < (cbl rows).length) : (cbl rows).getD i 0 ∈ cbl rows := by
  rw [List.getD_eq_getElem?_getD, List.getElem?_eq_getElem h]
  exact List.getElem_mem h
theorem cblN_len (rows : Int) (n : Nat) : (cblN rows n).length ≤ ((List.range n).filter (fun (a : Nat) => decide (2 ≤ a % 6))).length := by
  unfold cblN
  rw [show (fun (a : Nat) => decide (2 ≤ a % 6) && decide (thr rows a)) = (fun (a : Nat) => decide (thr rows a) && decide (2 ≤ a % 6)) from funext fun a => Bool.and_comm _ _, ← List.filter_filter]
  exact List.length_filter_le _ _
theorem cbl48 : ∀ n : Nat, n ≤ 72 → ((List.range n).filter (fun (a : Nat) => decide (2 ≤ a % 6))).length ≤ 48 := by decide +kernel
theorem cbl_len {rows : Int} {n : Nat} (h : n ≤ 72) : (cblN rows n).length ≤ 48 := Nat.le_trans (cblN_len rows n) (cbl48 n h)
theorem ntc_le {base rows : Int} {a : Nat} (h0 : 0 ≤ base) (h1 : base < 12) (ha : a < 72) : 0 ≤ ntc base rows a ∧ ntc base rows a ≤ 4095 := by
  have h := snd_eq h0 h1 ha
  unfold ntc
  split <;> omega
/-- the button of a bass row that sounds a low note, or -1: the first of its columns from c on -/
def lowF (base rows : Int) (row : Nat) (low : Int) : Nat → Nat → Int
  | 0, _ => -1
  | n + 1, c => if ntc base rows (6 * c + row) = zshl 1 low then ((6 * c + row : Nat) : Int) else lowF base rows row low n (c + 1)
def lowB (base rows : Int) (row : Nat) (low : Int) : Int := if low < 0 then -1 else lowF base rows row low 12 0
theorem lowF_bt {base rows low : Int} {row : Nat} (hr : row < 2) : ∀ n c, n + c ≤ 12 → bt1 (lowF base rows row low n c)
  | 0, _, _ => ⟨by show (-1 : Int) ≤ -1; omega, by show (-1 : Int) ≤ 71; omega⟩
  | n + 1, c, h => by
    unfold lowF
    split
    · exact ⟨by omega, by omega⟩
    · exact lowF_bt hr n (c + 1) (by omega)
theorem lowB_bt {base rows low : Int} {row : Nat} (hr : row < 2) : bt1 (lowB base rows row low) := by
  unfold lowB
  split
  · decide
  · exact lowF_bt hr 12 0 (by omega)

theorem lpLowB {G : gx_G} {X : gx_X} (hG : gx_OK G 76) (B : gx_B G X RX1 cX1_lowButton 4 rmX1_lowButton 76) {d row : Nat} (hd : isBoard d) (hrow : row < 2) {J : zJ} {base rows low : Int} (hb0 : 0 ≤ base) (hb1 : base < 12) (hl0 : 0 ≤ low) (hl1 : low ≤ 11) (hT : ∀ a : Nat, a < 72 → J (d + 1) a = ntc base rows a) (Rt : gx_Ri G X .int (zpi (fun r J' => r = lowF base rows row low 12 0 ∧ J' = J))) : ∀ i : Nat, i ≤ 12 → lowF base rows row low 12 0 = lowF base rows row low (12 - i) i → gx_WG G X 4 (zh J) 8 [(0, .ref (gx_ad G d)), (1, .int (zI (row : Int))), (2, .int (zI low)), (3, .int (zI ((6 * i + row : Nat) : Int)))] [] := by
  refine up_ind (fun i hi ih => ?_)
  intro hF
  refine gx_iload_n B dX1_lowButton_8 rfl rfl ?_
  refine z_bipush B dX1_lowButton_9 (by decide) ?_
  refine z_icmp_ge (tgt := 34) B dX1_lowButton_11 ⟨by omega, by omega⟩ ⟨by omega, by omega⟩ (by decide) (fun c11 => ?_) (fun c11 => ?_)
  · refine z_iconst B dX1_lowButton_34 ?_
    refine z_ireti B Rt dX1_lowButton_35 ?_
    refine ⟨?_, rfl⟩
    rw [hF, show 12 - i = 0 by omega]
    rfl
  · refine gx_aload_n B dX1_lowButton_14 rfl rfl ?_
    refine gx_getr (t := (d + 1)) B fl_X1_9 (kBoard hd) (bBoard hd) (rBoard0 hd) dX1_lowButton_15 ?_
    refine gx_iload_n B dX1_lowButton_18 rfl rfl ?_
    refine z_iald (6 * i + row) B (aBoard1 hd) (cBoard1 hd) rfl (show 6 * i + row < 72 by omega) (by decide) dX1_lowButton_19 ?_
    refine z_iconst B dX1_lowButton_20 ?_
    refine gx_iload_n B dX1_lowButton_21 rfl rfl ?_
    refine z_ishl B dX1_lowButton_22 ?_
    refine z_icmp_ne (tgt := 28) B dX1_lowButton_23 (by rw [hT _ (by omega)]; have := ntc_le (rows := rows) hb0 hb1 (show 6 * i + row < 72 by omega); exact ⟨by omega, by omega⟩) (zshlB _ _) (by decide) (fun c23 => ?_) (fun c23 => ?_)
    · rw [hT _ (by omega)] at c23
      refine z_iinc (fun v9 => [(0, .ref (gx_ad G d)), (1, .int (zI (row : Int))), (2, .int (zI low)), (3, .int (zI v9))]) B dX1_lowButton_28 rfl (by decide) rfl (fun _ => rfl) (fun v3 hv3 => ?_)
      rw [show v3 = ((6 * (i + 1) + row : Nat) : Int) from (by omega)]
      refine gx_goto (tgt := 8) B dX1_lowButton_31 (by decide) ?_
      refine ih (by omega) ?_
      rw [hF, show 12 - i = (12 - (i + 1)) + 1 by omega]
      conv => lhs; unfold lowF
      rw [if_neg c23]
    · rw [hT _ (by omega)] at c23
      refine gx_iload_n B dX1_lowButton_26 rfl rfl ?_
      refine z_ireti B Rt dX1_lowButton_27 ?_
      refine ⟨?_, rfl⟩
      rw [hF, show 12 - i = (11 - i) + 1 by omega]
      unfold lowF
      rw [if_pos c23]

theorem mX1_lowButton {l : Launch} {G : gx_G} (hG : gx_OK G 76) {d row : Nat} (hd : isBoard d) (hrow : row < 2) (J : zJ) {base rows low : Int} (hb0 : 0 ≤ base) (hb1 : base < 12) (hl0 : -1 ≤ low) (hl1 : low ≤ 11) (hT : ∀ a : Nat, a < 72 → J (d + 1) a = ntc base rows a) : zMi l G yX1_lowButton cX1_lowButton 4 .int rmX1_lowButton [.ref (gx_ad G d), .int (zI (row : Int)), .int (zI low)] J (fun r J' => r = lowB base rows row low ∧ J' = J) := by
  refine gx_mi hG (by decide) (Nat.le_of_ble_eq_true rfl) (fun X hla B Rt => ?_)
  subst hla
  have B : gx_B G X RX1 cX1_lowButton 4 rmX1_lowButton 76 := B
  show gx_WG G X 4 (zh J) 0 [(0, .ref (gx_ad G d)), (1, .int (zI (row : Int))), (2, .int (zI low))] []
  refine gx_iload_n B dX1_lowButton_0 rfl rfl ?_
  refine z_if_ge (tgt := 6) B dX1_lowButton_1 ⟨by omega, by omega⟩ (by decide) (fun c1 => ?_) (fun c1 => ?_)
  · refine gx_iload_n B dX1_lowButton_6 rfl rfl ?_
    refine z_istore_n (fun v9 => [(0, .ref (gx_ad G d)), (1, .int (zI (row : Int))), (2, .int (zI low)), (3, .int (zI v9))]) B dX1_lowButton_7 rfl (by decide) rfl (fun _ => rfl) (fun v3 hv3 => ?_)
    rw [show v3 = ((6 * 0 + row : Nat) : Int) from (by omega)]
    refine lpLowB hG B hd hrow hb0 hb1 (by omega) hl1 hT ?_ 0 (by omega) rfl
    unfold lowB at Rt
    rw [if_neg (by omega)] at Rt
    exact Rt
  · refine z_iconst B dX1_lowButton_4 ?_
    refine z_ireti B Rt dX1_lowButton_5 ?_
    refine ⟨?_, rfl⟩
    unfold lowB
    rw [if_pos (by omega)]


/-- what offers and their callers know: a board, the wanted chord, the low buttons *)-/
def Offer (J : zJ) (g d : Nat) (base rows : Int) : Prop := Tuned J d base rows ∧ 0 ≤ base ∧ base < 12 ∧ 0 ≤ J g 5 ∧ J g 5 ≤ 4095 ∧ bt1 (J g 6) ∧ bt1 (J g 7)
theorem gb_ne {g d : Nat} (hg : isGoods g) (hd : isBoard d) : d ≠ g ∧ d + 1 ≠ g ∧ d + 2 ≠ g ∧ d ≠ g + 1 ∧ d + 1 ≠ g + 1 ∧ d + 2 ≠ g + 1 := by
  obtain ⟨a, b, h1, h2, rfl⟩ := hg
  rcases h1 with rfl | rfl <;> rcases hd with rfl | rfl <;> omega
/-- an offer's frame: only count, best rank and codes of g change -/
abbrev OFr (J J' : zJ) (g : Nat) : Prop := ∀ a k, a ≠ g + 1 → ¬ (a = g ∧ (k = 1 ∨ k = 8)) → J' a k = J a k
theorem Offer.keep {J J' : zJ} {g d : Nat} {base rows : Int} (hg : isGoods g) (hd : isBoard d) (h : Offer J g d base rows) (fr : OFr J J' g) : Offer J' g d base rows ∧ J' g 5 = J g 5 ∧ J' g 6 = J g 6 ∧ J' g 7 = J g 7 := by
  obtain ⟨n1, n2, n3, n4, n5, n6⟩ := gb_ne hg hd
  obtain ⟨⟨t1, t2, t3⟩, h1, h2, h3, h4, h5, h6⟩ := h
  have e5 : J' g 5 = J g 5 := fr g 5 (by omega) (by omega)
  have e6 : J' g 6 = J g 6 := fr g 6 (by omega) (by omega)
  have e7 : J' g 7 = J g 7 := fr g 7 (by omega) (by omega)
  refine ⟨⟨⟨fun a ha => ?_, ?_, fun i hi => ?_⟩, h1, h2, by rw [e5]; exact h3, by rw [e5]; exact h4, by rw [e6]; exact h5, by rw [e7]; exact h6⟩, e5, e6, e7⟩
  · rw [fr (d + 1) a n5 (fun q => n2 q.1)]; exact t1 a ha
  · rw [fr d 2 n4 (fun q => n1 q.1)]; exact t2
  · rw [fr (d + 2) i n6 (fun q => n3 q.1)]; exact t3 i hi
def sglS (w base : Int) (ls : List Int) (s : GSt) (bs : List Nat) : GSt := bs.foldl (fun (s : GSt) (a : Nat) => offS (rnk w (snd base a) 1) (-1) a ls s) s
theorem sglS_ok {w base : Int} {ls : List Int} (hl : ∀ l ∈ ls, bt1 l) (hn : ls ≠ []) : ∀ (bs : List Nat) {s : GSt}, (∀ a ∈ bs, a < 72) → okS s → okS (sglS w base ls s bs)
  | [], _, _, h => h
  | a :: bs, s, hb, h => sglS_ok hl hn bs (fun x hx => hb x (List.mem_cons_of_mem _ hx)) (okS_off h (rnk_le (by omega) (by omega)) (by decide) (by have := hb a List.mem_cons_self; exact ⟨by omega, by omega⟩) hl hn)
theorem take_snoc {α : Type} {l : List α} {i : Nat} (h : i < l.length) (d : α) : l.take (i + 1) = l.take i ++ [l.getD i d] := by
  rw [List.take_succ, List.getElem?_eq_getElem h, List.getD_eq_getElem?_getD, List.getElem?_eq_getElem h]
  rfl

theorem lpSgl {G : gx_G} {X : gx_X} (hG : gx_OK G 76) (B : gx_B G X RX3 cX3_offerSingles 4 rmX3_offerSingles 76) {g d : Nat} (hg : isGoods g) (hd : isBoard d) {J0 : zJ} {base rows w : Int} {ls : List Int} (hls : ∀ l ∈ ls, bt1 l) (hln : ls ≠ []) {s0 : GSt} (ok0 : okS s0) (Rt : gx_Rv G X (zpv (fun J' => GSB J' g (sglS w base ls s0 (cbl rows)) ∧ OFr J0 J' g))) : ∀ i : Nat, i ≤ (cbl rows).length → ∀ (J : zJ), Offer J g d base rows → J g 5 = w → lowsOf (J g 6) (J g 7) = ls → GSB J g (sglS w base ls s0 ((cbl rows).take i)) → OFr J0 J g → gx_WG G X 4 (zh J) 2 [(0, .ref (gx_ad G g)), (1, .ref (gx_ad G d)), (2, .int (zI (i : Int)))] [] := by
  refine up_ind (fun i hi ih => ?_)
  intro J hO hw hl hs hfr
  have hT2 := hO.1.2.1
  have h48 : (cbl rows).length ≤ 48 := cbl_len (by omega)
  refine gx_iload_n B dX3_offerSingles_2 rfl rfl ?_
  refine gx_aload_n B dX3_offerSingles_3 rfl rfl ?_
  refine z_geti B fl_X3_62 (kBoard hd) (bBoard hd) (zBoard2 hd) dX3_offerSingles_4 ?_
  refine z_icmp_ge (tgt := 36) B dX3_offerSingles_7 ⟨by omega, by omega⟩ ⟨by omega, by omega⟩ (by decide) (fun c7 => ?_) (fun c7 => ?_)
  · refine z_ret B Rt dX3_offerSingles_36 ?_
    obtain rfl : i = (cbl rows).length := by omega
    rw [List.take_length] at hs
    exact ⟨hs, hfr⟩
  · refine gx_aload_n B dX3_offerSingles_10 rfl rfl ?_
    refine gx_getr (t := (d + 2)) B fl_X3_65 (kBoard hd) (bBoard hd) (rBoard1 hd) dX3_offerSingles_11 ?_
    refine gx_iload_n B dX3_offerSingles_14 rfl rfl ?_
    refine z_iald i B (aBoard2 hd) (cBoard2 hd) rfl (show i < 48 by omega) (by decide) dX3_offerSingles_15 ?_
    refine z_istore_n (fun v9 => [(0, .ref (gx_ad G g)), (1, .ref (gx_ad G d)), (2, .int (zI (i : Int))), (3, .int (zI v9))]) B dX3_offerSingles_16 rfl (by decide) rfl (fun _ => rfl) (fun v3 hv3 => ?_)
    rw [show v3 = ((cbl rows).getD i 0 : Int) from (by rw [hv3]; exact hO.1.2.2 i (by omega))]
    have hm := cblN_mem (cbl_at (rows := rows) (i := i) (by omega))
    refine gx_aload_n B dX3_offerSingles_17 rfl rfl ?_
    refine z_iconst B dX3_offerSingles_18 ?_
    refine gx_iload_n B dX3_offerSingles_19 rfl rfl ?_
    refine z_iconst B dX3_offerSingles_20 ?_
    refine gx_aload_n B dX3_offerSingles_21 rfl rfl ?_
    refine gx_getr (t := (d + 1)) B fl_X3_68 (kBoard hd) (bBoard hd) (rBoard0 hd) dX3_offerSingles_22 ?_
    refine gx_iload_n B dX3_offerSingles_25 rfl rfl ?_
    refine z_iald ((cbl rows).getD i 0) B (aBoard1 hd) (cBoard1 hd) rfl hm.1 (by decide) dX3_offerSingles_26 ?_
    rw [show J (d + 1) ((cbl rows).getD i 0) = snd base ((cbl rows).getD i 0 : Int) from (by rw [hO.1.1 _ hm.1]; unfold ntc; rw [if_pos hm.2.2])]
    have hsn := snd_eq hO.2.1 hO.2.2.1 hm.1
    have hsn2 : 0 ≤ snd base ((cbl rows).getD i 0 : Int) ∧ snd base ((cbl rows).getD i 0 : Int) ≤ 4095 := ⟨by omega, by omega⟩
    have okc : okS (sglS w base ls s0 ((cbl rows).take i)) := sglS_ok hls hln _ (fun a ha => (cblN_mem (List.mem_of_mem_take ha)).1) ok0
    refine z_callVv [.int (zI (-1)), .int (zI ((cbl rows).getD i 0 : Int)), .int (zI 1), .int (zI (snd base ((cbl rows).getD i 0 : Int)))] B lv_X3_47 (mX3_offer hG hg J (f := -1) (z := ((cbl rows).getD i 0 : Int)) (b := 1) (nt := snd base ((cbl rows).getD i 0 : Int)) (by decide) ⟨by omega, by omega⟩ (by omega) (by omega) hsn2.1 hsn2.2 hO.2.2.2.1 hO.2.2.2.2.1 hO.2.2.2.2.2.1 hO.2.2.2.2.2.2 (sglS w base ls s0 ((cbl rows).take i)) hs okc) (kGoods hg) (bGoods hg) rfl rfl (Nat.le_of_ble_eq_true rfl) (by decide) (by decide) dX3_offerSingles_27 (fun J1 hJ1 => ?_)
    refine z_iinc (fun v9 => [(0, .ref (gx_ad G g)), (1, .ref (gx_ad G d)), (2, .int (zI v9)), (3, .int (zI ((cbl rows).getD i 0 : Int)))]) B dX3_offerSingles_30 rfl (by decide) rfl (fun _ => rfl) (fun v2 hv2 => ?_)
    rw [show v2 = ((i + 1 : Nat) : Int) from (by omega)]
    refine gx_goto (tgt := 2) B dX3_offerSingles_33 (by decide) ?_
    refine gx_sub [0, 1, 2] rfl ?_
    obtain ⟨hO1, e5, e6, e7⟩ := hO.keep hg hd hJ1.2
    refine ih (by omega) J1 hO1 (by rw [e5]; exact hw) (by rw [e6, e7]; exact hl) ?_ (fun a k h1 h2 => (hJ1.2 a k h1 h2).trans (hfr a k h1 h2))
    rw [take_snoc (by omega) 0]
    unfold sglS
    rw [List.foldl_append]
    have h9 := hJ1.1
    rw [hw, hl] at h9
    exact h9

theorem mX3_offerSingles {l : Launch} {G : gx_G} (hG : gx_OK G 76) {g d : Nat} (hg : isGoods g) (hd : isBoard d) (J : zJ) {base rows : Int} (hO : Offer J g d base rows) (s0 : GSt) (hs : GSB J g s0) (ok0 : okS s0) : zMv l G yX3_offerSingles cX3_offerSingles 4 rmX3_offerSingles [.ref (gx_ad G g), .ref (gx_ad G d)] J (fun J' => GSB J' g (sglS (J g 5) base (lowsOf (J g 6) (J g 7)) s0 (cbl rows)) ∧ OFr J J' g) := by
  refine gx_mv hG (by decide) (Nat.le_of_ble_eq_true rfl) (fun X hla B Rt => ?_)
  subst hla
  have B : gx_B G X RX3 cX3_offerSingles 4 rmX3_offerSingles 76 := B
  show gx_WG G X 4 (zh J) 0 [(0, .ref (gx_ad G g)), (1, .ref (gx_ad G d))] []
  refine z_iconst B dX3_offerSingles_0 ?_
  refine z_istore_n (fun v9 => [(0, .ref (gx_ad G g)), (1, .ref (gx_ad G d)), (2, .int (zI v9))]) B dX3_offerSingles_1 rfl (by decide) rfl (fun _ => rfl) (fun v9 hv9 => ?_)
  rw [hv9]
  exact lpSgl hG B hg hd (lowsOf_bt hO.2.2.2.2.2.1 hO.2.2.2.2.2.2) (lowsOf_ne _ _) ok0 Rt 0 (by omega) J hO rfl rfl hs (fun _ _ _ _ => rfl)

