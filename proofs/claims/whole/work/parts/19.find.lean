
/-- the fold of all settings, as the class goes through them -/
def gls (base rows low : Int) : List Int := lowsOf (lowB base rows 0 low) (lowB base rows 1 low)
def gS1 (w base rows low : Int) : GSt := offS (rnk w 0 0) (-1) (-1) (gls base rows low) (1073741824, [])
def gS2 (w base rows low : Int) : GSt := sglS w base (gls base rows low) (gS1 w base rows low) (cbl rows)
def gF (w base rows low : Int) : GSt := prS w base (gls base rows low) (gS2 w base rows low) (cbl rows)
abbrev hasL (base rows low : Int) : Prop := ¬ lowB base rows 0 low = -1 ∨ ¬ lowB base rows 1 low = -1
def gsize (w base rows low : Int) : Int := (gF w base rows low).1 % 16 + bz (hasL base rows low)
def glack (w base rows low : Int) : Int := (gF w base rows low).1 / 256 + bz (0 ≤ low ∧ ¬ hasL base rows low)
def gextra (w base rows low : Int) : Int := (gF w base rows low).1 / 16 % 16
/-- the good settings of a beat, held by a Goods -/
def GoodsAt (J : zJ) (g : Nat) (w base rows low : Int) : Prop := GS J g (gF w base rows low).2 ∧ J g 2 = gsize w base rows low ∧ J g 3 = glack w base rows low ∧ J g 4 = gextra w base rows low
theorem zand15 {x : Int} (h0 : 0 ≤ x) (h1 : x < 2147483648) : zand x 15 = x % 16 := by
  obtain ⟨n, rfl⟩ := Int.eq_ofNat_of_zero_le h0
  show (zI (n : Int) &&& zI 15).toInt = _
  have hz : (zI 15).toBitVec.toNat = 2 ^ 4 - 1 := by decide
  rw [zI_nat, pk_andN (by omega) 4 hz, nI_toInt (by omega)]
  omega
theorem zand127 {x : Int} (h0 : 0 ≤ x) (h1 : x < 2147483648) : zand x 127 = x % 128 := by
  obtain ⟨n, rfl⟩ := Int.eq_ofNat_of_zero_le h0
  show (zI (n : Int) &&& zI 127).toInt = _
  have hz : (zI 127).toBitVec.toNat = 2 ^ 7 - 1 := by decide
  rw [zI_nat, pk_andN (by omega) 7 hz, nI_toInt (by omega)]
  omega
theorem zshr4 {x : Int} (h0 : 0 ≤ x) (h1 : x < 2147483648) : zshr x 4 = x / 16 := by
  obtain ⟨n, rfl⟩ := Int.eq_ofNat_of_zero_le h0
  have := zshr_nat (a := n) (k := 4) (by omega) (by omega)
  rw [show zshr (n : Int) 4 = zshr (n : Int) ((4 : Nat) : Int) from rfl, this]
  omega
theorem zshr8 {x : Int} (h0 : 0 ≤ x) (h1 : x < 2147483648) : zshr x 8 = x / 256 := by
  obtain ⟨n, rfl⟩ := Int.eq_ofNat_of_zero_le h0
  have := zshr_nat (a := n) (k := 8) (by omega) (by omega)
  rw [show zshr (n : Int) 8 = zshr (n : Int) ((8 : Nat) : Int) from rfl, this]
  omega
/-- more buttons don't better what fits wholly: pairs have a rank of at least 2 -/
theorem inS_skip {w base : Int} {ls : List Int} {a : Nat} {s : GSt} (h : s.1 ≤ 1) : ∀ bs : List Nat, inS w base ls a s bs = s
  | [] => rfl
  | b :: bs => by
    have h1 := ones_le (zless w (zor (snd base a) (snd base b)))
    have h2 := ones_le (zless (zor (snd base a) (snd base b)) w)
    have e : offS (rnk w (zor (snd base a) (snd base b)) 2) a b ls s = s := offS_gt (by unfold rnk; omega)
    show bs.foldl _ (offS _ _ _ ls s) = s
    rw [e]
    exact inS_skip h bs
theorem prS_skip {w base : Int} {ls : List Int} {s : GSt} (h : s.1 ≤ 1) : ∀ bs : List Nat, prS w base ls s bs = s
  | [] => rfl
  | a :: bs => by
    show prS w base ls (inS w base ls a s bs) bs = s
    rw [inS_skip h]
    exact prS_skip h bs
/-- a best rank that is a setting's, of at most m buttons -/
def rkd (m r : Int) : Prop := 0 ≤ r ∧ r ≤ 3300 ∧ r % 16 ≤ m
theorem rkd_rnk {m w n b : Int} (h0 : 0 ≤ b) (h1 : b ≤ 2) (h2 : b ≤ m) : rkd m (rnk w n b) := by
  have h2 := ones_le (zless w n)
  have h3 := ones_le (zless n w)
  unfold rkd rnk
  omega
theorem off_rkd {m r f z : Int} {ls : List Int} {s : GSt} (hr : rkd m r) (hn : ls ≠ []) (hs : rkd m s.1 ∨ 3300 < s.1) : rkd m (offS r f z ls s).1 := by
  rcases Int.lt_trichotomy r s.1 with h1 | h1 | h1
  · rw [offS_lt hn h1]; exact hr
  · rw [offS_same h1]; exact hr
  · rw [offS_gt h1]
    rcases hs with h | h
    · exact h
    · have := hr.2.1; omega
theorem sgl_rkd {w base : Int} {ls : List Int} (hn : ls ≠ []) : ∀ (bs : List Nat) {s : GSt}, rkd 1 s.1 → rkd 1 (sglS w base ls s bs).1
  | [], _, h => h
  | a :: bs, s, h => sgl_rkd hn bs (off_rkd (rkd_rnk (by omega) (by omega) (by omega)) hn (Or.inl h))
theorem in_rkd {w base : Int} {ls : List Int} (hn : ls ≠ []) {a : Nat} : ∀ (bs : List Nat) {s : GSt}, rkd 2 s.1 → rkd 2 (inS w base ls a s bs).1
  | [], _, h => h
  | b :: bs, s, h => in_rkd hn bs (off_rkd (rkd_rnk (by omega) (by omega) (by omega)) hn (Or.inl h))
theorem pr_rkd {w base : Int} {ls : List Int} (hn : ls ≠ []) : ∀ (bs : List Nat) {s : GSt}, rkd 2 s.1 → rkd 2 (prS w base ls s bs).1
  | [], _, h => h
  | a :: bs, s, h => pr_rkd hn bs (in_rkd hn bs h)
theorem prS_ok {w base : Int} {ls : List Int} (hl : ∀ l ∈ ls, bt1 l) (hn : ls ≠ []) : ∀ (bs : List Nat) {s : GSt}, (∀ b ∈ bs, b < 72) → okS s → okS (prS w base ls s bs)
  | [], _, _, h => h
  | a :: bs, s, hb, h => prS_ok hl hn bs (fun x hx => hb x (List.mem_cons_of_mem _ hx)) (inS_ok hl hn (hb a List.mem_cons_self) bs (fun x hx => hb x (List.mem_cons_of_mem _ hx)) h)
theorem gls_bt (base rows low : Int) : ∀ l ∈ gls base rows low, bt1 l := lowsOf_bt (lowB_bt (by omega)) (lowB_bt (by omega))
theorem gls_ne (base rows low : Int) : gls base rows low ≠ [] := lowsOf_ne _ _
theorem ok_init : okS (1073741824, []) := ⟨okL_nil, by decide, by decide⟩
theorem gS1_ok (w base rows low : Int) : okS (gS1 w base rows low) := okS_off ok_init (rnk_le (by omega) (by omega)) (by decide) (by decide) (gls_bt base rows low) (gls_ne base rows low)
theorem gS2_ok (w base rows low : Int) : okS (gS2 w base rows low) := sglS_ok (gls_bt base rows low) (gls_ne base rows low) _ (fun a ha => (cblN_mem ha).1) (gS1_ok w base rows low)
theorem gF_ok (w base rows low : Int) : okS (gF w base rows low) := prS_ok (gls_bt base rows low) (gls_ne base rows low) _ (fun a ha => (cblN_mem ha).1) (gS2_ok w base rows low)
theorem gS2_rkd (w base rows low : Int) : rkd 1 (gS2 w base rows low).1 := sgl_rkd (gls_ne base rows low) _ (off_rkd (rkd_rnk (by omega) (by omega) (by omega)) (gls_ne base rows low) (Or.inr (by decide)))
theorem gF_rkd (w base rows low : Int) : rkd 2 (gF w base rows low).1 := pr_rkd (gls_ne base rows low) _ (by have h := gS2_rkd w base rows low; exact ⟨h.1, h.2.1, by have := h.2.2; omega⟩)

theorem mX3_find {l : Launch} {G : gx_G} (hG : gx_OK G 76) {g d : Nat} (hg : isGoods g) (hd : isBoard d) (J : zJ) {base rows chord low : Int} (hb0 : 0 ≤ base) (hb1 : base < 12) (hc0 : 0 ≤ chord) (hc1 : chord ≤ 4095) (hl0 : -1 ≤ low) (hl1 : low ≤ 11) (hT : Tuned J d base rows) : zMv l G yX3_find cX3_find 4 rmX3_find [.ref (gx_ad G g), .ref (gx_ad G d), .int (zI chord), .int (zI low)] J (fun J' => GoodsAt J' g chord base rows low ∧ ∀ a k, a ≠ g → a ≠ g + 1 → J' a k = J a k) := by
  refine gx_mv hG (by decide) (Nat.le_of_ble_eq_true rfl) (fun X hla B Rt => ?_)
  subst hla
  have B : gx_B G X RX3 cX3_find 4 rmX3_find 76 := B
  show gx_WG G X 4 (zh J) 0 [(0, .ref (gx_ad G g)), (1, .ref (gx_ad G d)), (2, .int (zI chord)), (3, .int (zI low))] []
  obtain ⟨n1, n2, n3, n4, n5, n6⟩ := gb_ne hg hd
  have hend : ∀ JF : zJ, GSB JF g (gF chord base rows low) → (∀ a k, a ≠ g → a ≠ g + 1 → JF a k = J a k) → JF g 6 = lowB base rows 0 low → JF g 7 = lowB base rows 1 low → gx_WG G X 4 (zh JF) 63 [(0, .ref (gx_ad G g)), (1, .ref (gx_ad G d)), (2, .int (zI chord)), (3, .int (zI low))] [] := by
    intro JF hgF hfrF e6_JF e7_JF
    have okF := gF_rkd chord base rows low
    have h8 : JF g 8 = (gF chord base rows low).1 := hgF.2
    have hr0 := okF.1
    have hr1 := okF.2.1
    refine gx_aload_n B dX3_find_63 rfl rfl ?_
    refine gx_aload_n B dX3_find_64 rfl rfl ?_
    refine z_geti B fl_X3_37 (kGoods hg) (bGoods hg) (zGoods8 hg) dX3_find_65 ?_
    refine z_bipush B dX3_find_68 (by decide) ?_
    refine z_ishr B dX3_find_70 ?_
    refine gx_iload_n B dX3_find_71 rfl rfl ?_
    refine z_if_lt (tgt := 86) B dX3_find_72 ⟨by omega, by omega⟩ (by decide) (fun c72 => ?_) (fun c72 => ?_)
    · have hy : ¬ (0 ≤ low ∧ ¬ hasL base rows low) := by omega
      refine z_iconst B dX3_find_86 ?_
      refine z_iadd B dX3_find_87 ?_
      refine z_puti B fw_X3_22 (kGoods hg) (bGoods hg) (zGoods3 hg) dX3_find_88 (fun JL hJL => ?_)
      have eL : JL g 8 = (gF chord base rows low).1 := by rw [hJL, zup_ne (by omega)]; exact h8
      refine gx_aload_n B dX3_find_91 rfl rfl ?_
      refine gx_aload_n B dX3_find_92 rfl rfl ?_
      refine z_geti B fl_X3_37 (kGoods hg) (bGoods hg) (zGoods8 hg) dX3_find_93 ?_
      refine z_iconst B dX3_find_96 ?_
      refine z_ishr B dX3_find_97 ?_
      refine z_bipush B dX3_find_98 (by decide) ?_
      refine z_iand B dX3_find_100 ?_
      refine z_puti B fw_X3_25 (kGoods hg) (bGoods hg) (zGoods4 hg) dX3_find_101 (fun JE hJE => ?_)
      have eE : JE g 8 = (gF chord base rows low).1 := by rw [hJE, zup_ne (by omega)]; exact eL
      have e6_JE : JE g 6 = lowB base rows 0 low := by rw [hJE, zup_ne (by omega), hJL, zup_ne (by omega)]; exact e6_JF
      have e7_JE : JE g 7 = lowB base rows 1 low := by rw [hJE, zup_ne (by omega), hJL, zup_ne (by omega)]; exact e7_JF
      refine gx_aload_n B dX3_find_104 rfl rfl ?_
      refine gx_aload_n B dX3_find_105 rfl rfl ?_
      refine z_geti B fl_X3_37 (kGoods hg) (bGoods hg) (zGoods8 hg) dX3_find_106 ?_
      refine z_bipush B dX3_find_109 (by decide) ?_
      refine z_iand B dX3_find_111 ?_
      refine gx_aload_n B dX3_find_112 rfl rfl ?_
      refine z_callVi [] B lv_X3_58 (mX3_hasLowButton hG JE hg (by rw [e6_JE]; have := lowB_bt (base := base) (rows := rows) (low := low) (row := 0) (by omega); exact ⟨by omega, by omega⟩) (by rw [e7_JE]; have := lowB_bt (base := base) (rows := rows) (low := low) (row := 1) (by omega); exact ⟨by omega, by omega⟩)) (kGoods hg) (bGoods hg) rfl rfl (Nat.le_of_ble_eq_true rfl) (by decide) (by decide) dX3_find_113 (fun r1 Jh2 hJh2 => ?_)
      rw [show r1 = bz (¬ JE g 6 = -1 ∨ ¬ JE g 7 = -1) from hJh2.1, hJh2.2]
      refine z_if_eq (tgt := 123) B dX3_find_116 (bzB _) (by decide) (fun c116 => ?_) (fun c116 => ?_)
      · have hz : ¬ hasL base rows low := by rw [bz_0, e6_JE, e7_JE] at c116; exact c116
        refine z_iconst B dX3_find_123 ?_
        refine z_iadd B dX3_find_124 ?_
        refine z_puti B fw_X3_19 (kGoods hg) (bGoods hg) (zGoods2 hg) dX3_find_125 (fun JS hJS => ?_)
        refine z_ret B Rt dX3_find_128 ?_
        obtain ⟨c1, c2, c3⟩ := okF
        refine ⟨⟨⟨?_, fun k hk => ?_⟩, ?_, ?_, ?_⟩, fun a k h1 h2 => ?_⟩
        · rw [hJS, zup_ne (by omega), hJE, zup_ne (by omega), hJL, zup_ne (by omega)]; exact hgF.1.1
        · rw [hJS, zup_ne (by omega), hJE, zup_ne (by omega), hJL, zup_ne (by omega)]; exact hgF.1.2 k hk
        · rw [hJS, zup_self, eE, zand15 (by omega) (by omega)]
          unfold gsize
          congr 1
          first | rw [bz_1.mpr hz] | rw [bz_0.mpr hz]
        · rw [hJS, zup_ne (by omega), hJE, zup_ne (by omega), hJL, zup_self, zshr8 (by omega) (by omega), h8]
          unfold glack
          congr 1
          first | rw [bz_1.mpr hy] | rw [bz_0.mpr hy]
        · rw [hJS, zup_ne (by omega), hJE, zup_self, eL, zshr4 (by omega) (by omega), zand15 (by omega) (by omega)]
          rfl
        · rw [hJS, zup_ne (by omega), hJE, zup_ne (by omega), hJL, zup_ne (by omega), hfrF a k (by omega) (by omega)]
      · have hz : hasL base rows low := by rw [bz_n0, e6_JE, e7_JE] at c116; exact c116
        refine z_iconst B dX3_find_119 ?_
        refine gx_goto (tgt := 124) B dX3_find_120 (by decide) ?_
        refine z_iadd B dX3_find_124 ?_
        refine z_puti B fw_X3_19 (kGoods hg) (bGoods hg) (zGoods2 hg) dX3_find_125 (fun JS hJS => ?_)
        refine z_ret B Rt dX3_find_128 ?_
        obtain ⟨c1, c2, c3⟩ := okF
        refine ⟨⟨⟨?_, fun k hk => ?_⟩, ?_, ?_, ?_⟩, fun a k h1 h2 => ?_⟩
        · rw [hJS, zup_ne (by omega), hJE, zup_ne (by omega), hJL, zup_ne (by omega)]; exact hgF.1.1
        · rw [hJS, zup_ne (by omega), hJE, zup_ne (by omega), hJL, zup_ne (by omega)]; exact hgF.1.2 k hk
        · rw [hJS, zup_self, eE, zand15 (by omega) (by omega)]
          unfold gsize
          congr 1
          first | rw [bz_1.mpr hz] | rw [bz_0.mpr hz]
        · rw [hJS, zup_ne (by omega), hJE, zup_ne (by omega), hJL, zup_self, zshr8 (by omega) (by omega), h8]
          unfold glack
          congr 1
          first | rw [bz_1.mpr hy] | rw [bz_0.mpr hy]
        · rw [hJS, zup_ne (by omega), hJE, zup_self, eL, zshr4 (by omega) (by omega), zand15 (by omega) (by omega)]
          rfl
        · rw [hJS, zup_ne (by omega), hJE, zup_ne (by omega), hJL, zup_ne (by omega), hfrF a k (by omega) (by omega)]
    · refine gx_aload_n B dX3_find_75 rfl rfl ?_
      refine z_callVi [] B lv_X3_58 (mX3_hasLowButton hG JF hg (by rw [e6_JF]; have := lowB_bt (base := base) (rows := rows) (low := low) (row := 0) (by omega); exact ⟨by omega, by omega⟩) (by rw [e7_JF]; have := lowB_bt (base := base) (rows := rows) (low := low) (row := 1) (by omega); exact ⟨by omega, by omega⟩)) (kGoods hg) (bGoods hg) rfl rfl (Nat.le_of_ble_eq_true rfl) (by decide) (by decide) dX3_find_76 (fun r2 Jh1 hJh1 => ?_)
      rw [show r2 = bz (¬ JF g 6 = -1 ∨ ¬ JF g 7 = -1) from hJh1.1, hJh1.2]
      refine z_if_ne (tgt := 86) B dX3_find_79 (bzB _) (by decide) (fun c79 => ?_) (fun c79 => ?_)
      · rw [bz_n0, e6_JF, e7_JF] at c79
        have hy : ¬ (0 ≤ low ∧ ¬ hasL base rows low) := fun q => q.2 c79
        refine z_iconst B dX3_find_86 ?_
        refine z_iadd B dX3_find_87 ?_
        refine z_puti B fw_X3_22 (kGoods hg) (bGoods hg) (zGoods3 hg) dX3_find_88 (fun JL hJL => ?_)
        have eL : JL g 8 = (gF chord base rows low).1 := by rw [hJL, zup_ne (by omega)]; exact h8
        refine gx_aload_n B dX3_find_91 rfl rfl ?_
        refine gx_aload_n B dX3_find_92 rfl rfl ?_
        refine z_geti B fl_X3_37 (kGoods hg) (bGoods hg) (zGoods8 hg) dX3_find_93 ?_
        refine z_iconst B dX3_find_96 ?_
        refine z_ishr B dX3_find_97 ?_
        refine z_bipush B dX3_find_98 (by decide) ?_
        refine z_iand B dX3_find_100 ?_
        refine z_puti B fw_X3_25 (kGoods hg) (bGoods hg) (zGoods4 hg) dX3_find_101 (fun JE hJE => ?_)
        have eE : JE g 8 = (gF chord base rows low).1 := by rw [hJE, zup_ne (by omega)]; exact eL
        have e6_JE : JE g 6 = lowB base rows 0 low := by rw [hJE, zup_ne (by omega), hJL, zup_ne (by omega)]; exact e6_JF
        have e7_JE : JE g 7 = lowB base rows 1 low := by rw [hJE, zup_ne (by omega), hJL, zup_ne (by omega)]; exact e7_JF
        refine gx_aload_n B dX3_find_104 rfl rfl ?_
        refine gx_aload_n B dX3_find_105 rfl rfl ?_
        refine z_geti B fl_X3_37 (kGoods hg) (bGoods hg) (zGoods8 hg) dX3_find_106 ?_
        refine z_bipush B dX3_find_109 (by decide) ?_
        refine z_iand B dX3_find_111 ?_
        refine gx_aload_n B dX3_find_112 rfl rfl ?_
        refine z_callVi [] B lv_X3_58 (mX3_hasLowButton hG JE hg (by rw [e6_JE]; have := lowB_bt (base := base) (rows := rows) (low := low) (row := 0) (by omega); exact ⟨by omega, by omega⟩) (by rw [e7_JE]; have := lowB_bt (base := base) (rows := rows) (low := low) (row := 1) (by omega); exact ⟨by omega, by omega⟩)) (kGoods hg) (bGoods hg) rfl rfl (Nat.le_of_ble_eq_true rfl) (by decide) (by decide) dX3_find_113 (fun r3 Jh2 hJh2 => ?_)
        rw [show r3 = bz (¬ JE g 6 = -1 ∨ ¬ JE g 7 = -1) from hJh2.1, hJh2.2]
        refine z_if_eq (tgt := 123) B dX3_find_116 (bzB _) (by decide) (fun c116 => ?_) (fun c116 => ?_)
        · have hz : ¬ hasL base rows low := by rw [bz_0, e6_JE, e7_JE] at c116; exact c116
          refine z_iconst B dX3_find_123 ?_
          refine z_iadd B dX3_find_124 ?_
          refine z_puti B fw_X3_19 (kGoods hg) (bGoods hg) (zGoods2 hg) dX3_find_125 (fun JS hJS => ?_)
          refine z_ret B Rt dX3_find_128 ?_
          obtain ⟨c1, c2, c3⟩ := okF
          refine ⟨⟨⟨?_, fun k hk => ?_⟩, ?_, ?_, ?_⟩, fun a k h1 h2 => ?_⟩
          · rw [hJS, zup_ne (by omega), hJE, zup_ne (by omega), hJL, zup_ne (by omega)]; exact hgF.1.1
          · rw [hJS, zup_ne (by omega), hJE, zup_ne (by omega), hJL, zup_ne (by omega)]; exact hgF.1.2 k hk
          · rw [hJS, zup_self, eE, zand15 (by omega) (by omega)]
            unfold gsize
            congr 1
            first | rw [bz_1.mpr hz] | rw [bz_0.mpr hz]
          · rw [hJS, zup_ne (by omega), hJE, zup_ne (by omega), hJL, zup_self, zshr8 (by omega) (by omega), h8]
            unfold glack
            congr 1
            first | rw [bz_1.mpr hy] | rw [bz_0.mpr hy]
          · rw [hJS, zup_ne (by omega), hJE, zup_self, eL, zshr4 (by omega) (by omega), zand15 (by omega) (by omega)]
            rfl
          · rw [hJS, zup_ne (by omega), hJE, zup_ne (by omega), hJL, zup_ne (by omega), hfrF a k (by omega) (by omega)]
        · have hz : hasL base rows low := by rw [bz_n0, e6_JE, e7_JE] at c116; exact c116
          refine z_iconst B dX3_find_119 ?_
          refine gx_goto (tgt := 124) B dX3_find_120 (by decide) ?_
          refine z_iadd B dX3_find_124 ?_
          refine z_puti B fw_X3_19 (kGoods hg) (bGoods hg) (zGoods2 hg) dX3_find_125 (fun JS hJS => ?_)
          refine z_ret B Rt dX3_find_128 ?_
          obtain ⟨c1, c2, c3⟩ := okF
          refine ⟨⟨⟨?_, fun k hk => ?_⟩, ?_, ?_, ?_⟩, fun a k h1 h2 => ?_⟩
          · rw [hJS, zup_ne (by omega), hJE, zup_ne (by omega), hJL, zup_ne (by omega)]; exact hgF.1.1
          · rw [hJS, zup_ne (by omega), hJE, zup_ne (by omega), hJL, zup_ne (by omega)]; exact hgF.1.2 k hk
          · rw [hJS, zup_self, eE, zand15 (by omega) (by omega)]
            unfold gsize
            congr 1
            first | rw [bz_1.mpr hz] | rw [bz_0.mpr hz]
          · rw [hJS, zup_ne (by omega), hJE, zup_ne (by omega), hJL, zup_self, zshr8 (by omega) (by omega), h8]
            unfold glack
            congr 1
            first | rw [bz_1.mpr hy] | rw [bz_0.mpr hy]
          · rw [hJS, zup_ne (by omega), hJE, zup_self, eL, zshr4 (by omega) (by omega), zand15 (by omega) (by omega)]
            rfl
          · rw [hJS, zup_ne (by omega), hJE, zup_ne (by omega), hJL, zup_ne (by omega), hfrF a k (by omega) (by omega)]
      · rw [bz_0, e6_JF, e7_JF] at c79
        have hy : 0 ≤ low ∧ ¬ hasL base rows low := ⟨by omega, c79⟩
        refine z_iconst B dX3_find_82 ?_
        refine gx_goto (tgt := 87) B dX3_find_83 (by decide) ?_
        refine z_iadd B dX3_find_87 ?_
        refine z_puti B fw_X3_22 (kGoods hg) (bGoods hg) (zGoods3 hg) dX3_find_88 (fun JL hJL => ?_)
        have eL : JL g 8 = (gF chord base rows low).1 := by rw [hJL, zup_ne (by omega)]; exact h8
        refine gx_aload_n B dX3_find_91 rfl rfl ?_
        refine gx_aload_n B dX3_find_92 rfl rfl ?_
        refine z_geti B fl_X3_37 (kGoods hg) (bGoods hg) (zGoods8 hg) dX3_find_93 ?_
        refine z_iconst B dX3_find_96 ?_
        refine z_ishr B dX3_find_97 ?_
        refine z_bipush B dX3_find_98 (by decide) ?_
        refine z_iand B dX3_find_100 ?_
        refine z_puti B fw_X3_25 (kGoods hg) (bGoods hg) (zGoods4 hg) dX3_find_101 (fun JE hJE => ?_)
        have eE : JE g 8 = (gF chord base rows low).1 := by rw [hJE, zup_ne (by omega)]; exact eL
        have e6_JE : JE g 6 = lowB base rows 0 low := by rw [hJE, zup_ne (by omega), hJL, zup_ne (by omega)]; exact e6_JF
        have e7_JE : JE g 7 = lowB base rows 1 low := by rw [hJE, zup_ne (by omega), hJL, zup_ne (by omega)]; exact e7_JF
        refine gx_aload_n B dX3_find_104 rfl rfl ?_
        refine gx_aload_n B dX3_find_105 rfl rfl ?_
        refine z_geti B fl_X3_37 (kGoods hg) (bGoods hg) (zGoods8 hg) dX3_find_106 ?_
        refine z_bipush B dX3_find_109 (by decide) ?_
        refine z_iand B dX3_find_111 ?_
        refine gx_aload_n B dX3_find_112 rfl rfl ?_
        refine z_callVi [] B lv_X3_58 (mX3_hasLowButton hG JE hg (by rw [e6_JE]; have := lowB_bt (base := base) (rows := rows) (low := low) (row := 0) (by omega); exact ⟨by omega, by omega⟩) (by rw [e7_JE]; have := lowB_bt (base := base) (rows := rows) (low := low) (row := 1) (by omega); exact ⟨by omega, by omega⟩)) (kGoods hg) (bGoods hg) rfl rfl (Nat.le_of_ble_eq_true rfl) (by decide) (by decide) dX3_find_113 (fun r4 Jh2 hJh2 => ?_)
        rw [show r4 = bz (¬ JE g 6 = -1 ∨ ¬ JE g 7 = -1) from hJh2.1, hJh2.2]
        refine z_if_eq (tgt := 123) B dX3_find_116 (bzB _) (by decide) (fun c116 => ?_) (fun c116 => ?_)
        · have hz : ¬ hasL base rows low := by rw [bz_0, e6_JE, e7_JE] at c116; exact c116
          refine z_iconst B dX3_find_123 ?_
          refine z_iadd B dX3_find_124 ?_
          refine z_puti B fw_X3_19 (kGoods hg) (bGoods hg) (zGoods2 hg) dX3_find_125 (fun JS hJS => ?_)
          refine z_ret B Rt dX3_find_128 ?_
          obtain ⟨c1, c2, c3⟩ := okF
          refine ⟨⟨⟨?_, fun k hk => ?_⟩, ?_, ?_, ?_⟩, fun a k h1 h2 => ?_⟩
          · rw [hJS, zup_ne (by omega), hJE, zup_ne (by omega), hJL, zup_ne (by omega)]; exact hgF.1.1
          · rw [hJS, zup_ne (by omega), hJE, zup_ne (by omega), hJL, zup_ne (by omega)]; exact hgF.1.2 k hk
          · rw [hJS, zup_self, eE, zand15 (by omega) (by omega)]
            unfold gsize
            congr 1
            first | rw [bz_1.mpr hz] | rw [bz_0.mpr hz]
          · rw [hJS, zup_ne (by omega), hJE, zup_ne (by omega), hJL, zup_self, zshr8 (by omega) (by omega), h8]
            unfold glack
            congr 1
            first | rw [bz_1.mpr hy] | rw [bz_0.mpr hy]
          · rw [hJS, zup_ne (by omega), hJE, zup_self, eL, zshr4 (by omega) (by omega), zand15 (by omega) (by omega)]
            rfl
          · rw [hJS, zup_ne (by omega), hJE, zup_ne (by omega), hJL, zup_ne (by omega), hfrF a k (by omega) (by omega)]
        · have hz : hasL base rows low := by rw [bz_n0, e6_JE, e7_JE] at c116; exact c116
          refine z_iconst B dX3_find_119 ?_
          refine gx_goto (tgt := 124) B dX3_find_120 (by decide) ?_
          refine z_iadd B dX3_find_124 ?_
          refine z_puti B fw_X3_19 (kGoods hg) (bGoods hg) (zGoods2 hg) dX3_find_125 (fun JS hJS => ?_)
          refine z_ret B Rt dX3_find_128 ?_
          obtain ⟨c1, c2, c3⟩ := okF
          refine ⟨⟨⟨?_, fun k hk => ?_⟩, ?_, ?_, ?_⟩, fun a k h1 h2 => ?_⟩
          · rw [hJS, zup_ne (by omega), hJE, zup_ne (by omega), hJL, zup_ne (by omega)]; exact hgF.1.1
          · rw [hJS, zup_ne (by omega), hJE, zup_ne (by omega), hJL, zup_ne (by omega)]; exact hgF.1.2 k hk
          · rw [hJS, zup_self, eE, zand15 (by omega) (by omega)]
            unfold gsize
            congr 1
            first | rw [bz_1.mpr hz] | rw [bz_0.mpr hz]
          · rw [hJS, zup_ne (by omega), hJE, zup_ne (by omega), hJL, zup_self, zshr8 (by omega) (by omega), h8]
            unfold glack
            congr 1
            first | rw [bz_1.mpr hy] | rw [bz_0.mpr hy]
          · rw [hJS, zup_ne (by omega), hJE, zup_self, eL, zshr4 (by omega) (by omega), zand15 (by omega) (by omega)]
            rfl
          · rw [hJS, zup_ne (by omega), hJE, zup_ne (by omega), hJL, zup_ne (by omega), hfrF a k (by omega) (by omega)]
  refine gx_aload_n B dX3_find_0 rfl rfl ?_
  refine gx_iload_n B dX3_find_1 rfl rfl ?_
  refine z_puti B fw_X3_28 (kGoods hg) (bGoods hg) (zGoods5 hg) dX3_find_2 (fun J1 hJ1 => ?_)
  have ht_J1 : ∀ a : Nat, a < 72 → J1 (d + 1) a = ntc base rows a := fun a ha => by rw [hJ1, zup_ne (by omega)]; exact hT.1 a ha
  refine gx_aload_n B dX3_find_5 rfl rfl ?_
  refine gx_aload_n B dX3_find_6 rfl rfl ?_
  refine z_iconst B dX3_find_7 ?_
  refine gx_iload_n B dX3_find_8 rfl rfl ?_
  refine z_callVi [.int (zI 0), .int (zI low)] B lv_X3_40 (mX1_lowButton hG hd (row := 0) (by omega) J1 (base := base) (rows := rows) hb0 hb1 hl0 hl1 (ht_J1)) (kBoard hd) (bBoard hd) rfl rfl (Nat.le_of_ble_eq_true rfl) (by decide) (by decide) dX3_find_9 (fun r1 Ja hJa => ?_)
  rw [show r1 = lowB base rows 0 low from hJa.1, hJa.2]
  refine z_puti B fw_X3_31 (kGoods hg) (bGoods hg) (zGoods6 hg) dX3_find_12 (fun J2 hJ2 => ?_)
  have ht_J2 : ∀ a : Nat, a < 72 → J2 (d + 1) a = ntc base rows a := fun a ha => by rw [hJ2, zup_ne (by omega)]; exact ht_J1 a ha
  refine gx_aload_n B dX3_find_15 rfl rfl ?_
  refine gx_aload_n B dX3_find_16 rfl rfl ?_
  refine z_iconst B dX3_find_17 ?_
  refine gx_iload_n B dX3_find_18 rfl rfl ?_
  refine z_callVi [.int (zI 1), .int (zI low)] B lv_X3_40 (mX1_lowButton hG hd (row := 1) (by omega) J2 (base := base) (rows := rows) hb0 hb1 hl0 hl1 (ht_J2)) (kBoard hd) (bBoard hd) rfl rfl (Nat.le_of_ble_eq_true rfl) (by decide) (by decide) dX3_find_19 (fun r2 Jb hJb => ?_)
  rw [show r2 = lowB base rows 1 low from hJb.1, hJb.2]
  refine z_puti B fw_X3_34 (kGoods hg) (bGoods hg) (zGoods7 hg) dX3_find_22 (fun J3 hJ3 => ?_)
  refine gx_aload_n B dX3_find_25 rfl rfl ?_
  refine z_iconst B dX3_find_26 ?_
  refine z_puti B fw_X3_15 (kGoods hg) (bGoods hg) (zGoods1 hg) dX3_find_27 (fun J4 hJ4 => ?_)
  refine gx_aload_n B dX3_find_30 rfl rfl ?_
  refine z_ldc 1073741824 B dX3_find_31 lk_X3_46 (by decide) ?_
  refine z_puti B fw_X3_37 (kGoods hg) (bGoods hg) (zGoods8 hg) dX3_find_33 (fun J5 hJ5 => ?_)
  have hfr5 : ∀ a k, a ≠ g → J5 a k = J a k := fun a k h1 => by rw [hJ5, zup_ne (by omega), hJ4, zup_ne (by omega), hJ3, zup_ne (by omega), hJ2, zup_ne (by omega), hJ1, zup_ne (by omega)]
  have h55 : J5 g 5 = chord := by rw [hJ5, zup_ne (by omega), hJ4, zup_ne (by omega), hJ3, zup_ne (by omega), hJ2, zup_ne (by omega), hJ1, zup_self]
  have h56 : J5 g 6 = lowB base rows 0 low := by rw [hJ5, zup_ne (by omega), hJ4, zup_ne (by omega), hJ3, zup_ne (by omega), hJ2, zup_self]
  have h57 : J5 g 7 = lowB base rows 1 low := by rw [hJ5, zup_ne (by omega), hJ4, zup_ne (by omega), hJ3, zup_self]
  have hgs : GSB J5 g (1073741824, []) := ⟨⟨by rw [hJ5, zup_ne (by omega), hJ4, zup_self]; rfl, fun k hk => by simp at hk⟩, by rw [hJ5, zup_self]⟩
  have hO : Offer J5 g d base rows := ⟨⟨fun a ha => by rw [hfr5 _ _ n2]; exact hT.1 a ha, by rw [hfr5 _ _ n1]; exact hT.2.1, fun i hi => by rw [hfr5 _ _ n3]; exact hT.2.2 i hi⟩, hb0, hb1, by rw [h55]; exact hc0, by rw [h55]; exact hc1, by rw [h56]; exact lowB_bt (by omega), by rw [h57]; exact lowB_bt (by omega)⟩
  refine gx_aload_n B dX3_find_36 rfl rfl ?_
  refine z_iconst B dX3_find_37 ?_
  refine z_iconst B dX3_find_38 ?_
  refine z_iconst B dX3_find_39 ?_
  refine z_iconst B dX3_find_40 ?_
  refine z_callVv [.int (zI (-1)), .int (zI (-1)), .int (zI 0), .int (zI 0)] B lv_X3_47 (mX3_offer hG hg J5 (f := -1) (z := -1) (b := 0) (nt := 0) (by decide) (by decide) (by decide) (by decide) (by decide) (by decide) hO.2.2.2.1 hO.2.2.2.2.1 hO.2.2.2.2.2.1 hO.2.2.2.2.2.2 (1073741824, []) hgs ok_init) (kGoods hg) (bGoods hg) rfl rfl (Nat.le_of_ble_eq_true rfl) (by decide) (by decide) dX3_find_41 (fun JO hJO => ?_)
  obtain ⟨hO1, f5, f6, f7⟩ := hO.keep hg hd hJO.2
  have hgs1 : GSB JO g (gS1 chord base rows low) := by have h9 := hJO.1; rw [h55, h56, h57] at h9; exact h9
  refine gx_aload_n B dX3_find_44 rfl rfl ?_
  refine gx_aload_n B dX3_find_45 rfl rfl ?_
  refine z_callVv [.ref (gx_ad G d)] B lv_X3_51 (mX3_offerSingles hG hg hd JO hO1 (gS1 chord base rows low) hgs1 (gS1_ok _ _ _ _)) (kGoods hg) (bGoods hg) rfl rfl (Nat.le_of_ble_eq_true rfl) (by decide) (by decide) dX3_find_46 (fun JP hJP => ?_)
  obtain ⟨hO2, k5, k6, k7⟩ := hO1.keep hg hd hJP.2
  have hP1 : GSB JP g (gS2 chord base rows low) := by have h9 := hJP.1; rw [f5, f6, f7, h55, h56, h57] at h9; exact h9
  have hP6 : JP g 6 = lowB base rows 0 low := by rw [k6, f6, h56]
  have hP7 : JP g 7 = lowB base rows 1 low := by rw [k7, f7, h57]
  have hP2 : ∀ a k, a ≠ g → a ≠ g + 1 → JP a k = J a k := fun a k h1 h2 => by rw [hJP.2 a k h2 (by omega), hJO.2 a k h2 (by omega), hfr5 a k h1]
  have hr2 := gS2_rkd chord base rows low
  obtain ⟨hr20, hr21, hr22⟩ := hr2
  have h8P : zshr (JP g 8) 4 = (gS2 chord base rows low).1 / 16 := by rw [hP1.2]; exact zshr4 (by omega) (by omega)
  refine gx_aload_n B dX3_find_49 rfl rfl ?_
  refine z_geti B fl_X3_37 (kGoods hg) (bGoods hg) (zGoods8 hg) dX3_find_50 ?_
  refine z_iconst B dX3_find_53 ?_
  refine z_ishr B dX3_find_54 ?_
  refine z_if_eq (tgt := 63) B dX3_find_55 (zshrB _ _) (by decide) (fun c55 => ?_) (fun c55 => ?_)
  · refine hend JP ?_ hP2 hP6 hP7
    unfold gF
    rw [prS_skip (by rw [h8P] at c55; omega)]
    exact hP1
  · refine gx_aload_n B dX3_find_58 rfl rfl ?_
    refine gx_aload_n B dX3_find_59 rfl rfl ?_
    refine z_callVv [.ref (gx_ad G d)] B lv_X3_55 (mX3_offerPairs hG hg hd JP hO2 (gS2 chord base rows low) hP1 (gS2_ok _ _ _ _)) (kGoods hg) (bGoods hg) rfl rfl (Nat.le_of_ble_eq_true rfl) (by decide) (by decide) dX3_find_60 (fun JQ hJQ => ?_)
    obtain ⟨hO3, m5, m6, m7⟩ := hO2.keep hg hd hJQ.2
    refine hend JQ ?_ (fun a k h1 h2 => by rw [hJQ.2 a k h2 (by omega), hP2 a k h1 h2]) (by rw [m6, hP6]) (by rw [m7, hP7])
    have h9 := hJQ.1
    rw [k5, k6, k7, f5, f6, f7, h55, h56, h57] at h9
    exact h9

