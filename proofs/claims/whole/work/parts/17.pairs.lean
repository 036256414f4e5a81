
def inS (w base : Int) (ls : List Int) (a : Nat) (s : GSt) (bs : List Nat) : GSt := bs.foldl (fun (s : GSt) (b : Nat) => offS (rnk w (zor (snd base a) (snd base b)) 2) a b ls s) s
def prS (w base : Int) (ls : List Int) : GSt → List Nat → GSt
  | s, [] => s
  | s, a :: bs => prS w base ls (inS w base ls a s bs) bs
theorem drop_cons {l : List Nat} {i : Nat} (h : i < l.length) : l.drop i = l.getD i 0 :: l.drop (i + 1) := by
  rw [List.drop_eq_getElem_cons h, List.getD_eq_getElem?_getD, List.getElem?_eq_getElem h]
  rfl
theorem inS_ok {w base : Int} {ls : List Int} (hl : ∀ l ∈ ls, bt1 l) (hn : ls ≠ []) {a : Nat} (ha : a < 72) : ∀ (bs : List Nat) {s : GSt}, (∀ b ∈ bs, b < 72) → okS s → okS (inS w base ls a s bs)
  | [], _, _, h => h
  | b :: bs, s, hb, h => inS_ok hl hn ha bs (fun x hx => hb x (List.mem_cons_of_mem _ hx)) (okS_off h (rnk_le (by omega) (by omega)) ⟨by omega, by omega⟩ (by have := hb b List.mem_cons_self; exact ⟨by omega, by omega⟩) hl hn)

theorem lpPrI {G : gx_G} {X : gx_X} (hG : gx_OK G 76) (B : gx_B G X RX3 cX3_offerPairs 6 rmX3_offerPairs 76) {g d : Nat} (hg : isGoods g) (hd : isBoard d) {J0 : zJ} {base rows w : Int} {ls : List Int} (hls : ∀ l ∈ ls, bt1 l) (hln : ls ≠ []) (F : GSt) {i : Nat} (hi0 : i < (cbl rows).length) (kk : ∀ (J : zJ) (s : GSt), Offer J g d base rows → J g 5 = w → lowsOf (J g 6) (J g 7) = ls → GSB J g s → okS s → OFr J0 J g → F = prS w base ls s ((cbl rows).drop (i + 1)) → gx_WG G X 6 (zh J) 68 [(0, .ref (gx_ad G g)), (1, .ref (gx_ad G d)), (2, .int (zI (i : Int)))] []) : ∀ j : Nat, j ≤ (cbl rows).length → ∀ (J : zJ) (s : GSt), Offer J g d base rows → J g 5 = w → lowsOf (J g 6) (J g 7) = ls → GSB J g s → okS s → OFr J0 J g → F = prS w base ls (inS w base ls ((cbl rows).getD i 0) s ((cbl rows).drop j)) ((cbl rows).drop (i + 1)) → gx_WG G X 6 (zh J) 22 [(0, .ref (gx_ad G g)), (1, .ref (gx_ad G d)), (2, .int (zI (i : Int))), (3, .int (zI ((cbl rows).getD i 0 : Int))), (4, .int (zI (j : Int)))] [] := by
  refine up_ind (fun j hi ih => ?_)
  intro J s hO hw hl hs ok hfr hF
  have hT2 := hO.1.2.1
  have h48 : (cbl rows).length ≤ 48 := cbl_len (by omega)
  have hma := cblN_mem (cbl_at (rows := rows) hi0)
  have hsa := snd_eq hO.2.1 hO.2.2.1 hma.1
  refine gx_iload B dX3_offerPairs_22 rfl ?_
  refine gx_aload_n B dX3_offerPairs_24 rfl rfl ?_
  refine z_geti B fl_X3_62 (kBoard hd) (bBoard hd) (zBoard2 hd) dX3_offerPairs_25 ?_
  refine z_icmp_ge (tgt := 68) B dX3_offerPairs_28 ⟨by omega, by omega⟩ ⟨by omega, by omega⟩ (by decide) (fun c28 => ?_) (fun c28 => ?_)
  · refine gx_sub [0, 1, 2] rfl ?_
    refine kk J s hO hw hl hs ok hfr ?_
    rw [hF, List.drop_eq_nil_of_le (show (cbl rows).length ≤ j by omega)]
    rfl
  · refine gx_aload_n B dX3_offerPairs_31 rfl rfl ?_
    refine gx_getr (t := (d + 2)) B fl_X3_65 (kBoard hd) (bBoard hd) (rBoard1 hd) dX3_offerPairs_32 ?_
    refine gx_iload B dX3_offerPairs_35 rfl ?_
    refine z_iald j B (aBoard2 hd) (cBoard2 hd) rfl (show j < 48 by omega) (by decide) dX3_offerPairs_37 ?_
    refine z_istore (fun v9 => [(0, .ref (gx_ad G g)), (1, .ref (gx_ad G d)), (2, .int (zI (i : Int))), (3, .int (zI ((cbl rows).getD i 0 : Int))), (4, .int (zI (j : Int))), (5, .int (zI v9))]) B dX3_offerPairs_38 (by decide) rfl (fun _ => rfl) (fun v5 hv5 => ?_)
    rw [show v5 = ((cbl rows).getD j 0 : Int) from (by rw [hv5]; exact hO.1.2.2 j (by omega))]
    have hm := cblN_mem (cbl_at (rows := rows) (i := j) (by omega))
    have hsn := snd_eq hO.2.1 hO.2.2.1 hm.1
    have hsn2 := zor_le (a := snd base ((cbl rows).getD i 0 : Int)) (b := snd base ((cbl rows).getD j 0 : Int)) (by omega) (by omega) (by omega) (by omega)
    refine gx_aload_n B dX3_offerPairs_40 rfl rfl ?_
    refine gx_iload_n B dX3_offerPairs_41 rfl rfl ?_
    refine gx_iload B dX3_offerPairs_42 rfl ?_
    refine z_iconst B dX3_offerPairs_44 ?_
    refine gx_aload_n B dX3_offerPairs_45 rfl rfl ?_
    refine gx_getr (t := (d + 1)) B fl_X3_68 (kBoard hd) (bBoard hd) (rBoard0 hd) dX3_offerPairs_46 ?_
    refine gx_iload_n B dX3_offerPairs_49 rfl rfl ?_
    refine z_iald ((cbl rows).getD i 0) B (aBoard1 hd) (cBoard1 hd) rfl hma.1 (by decide) dX3_offerPairs_50 ?_
    rw [show J (d + 1) ((cbl rows).getD i 0) = snd base ((cbl rows).getD i 0 : Int) from (by rw [hO.1.1 _ hma.1]; unfold ntc; rw [if_pos hma.2.2])]
    refine gx_aload_n B dX3_offerPairs_51 rfl rfl ?_
    refine gx_getr (t := (d + 1)) B fl_X3_68 (kBoard hd) (bBoard hd) (rBoard0 hd) dX3_offerPairs_52 ?_
    refine gx_iload B dX3_offerPairs_55 rfl ?_
    refine z_iald ((cbl rows).getD j 0) B (aBoard1 hd) (cBoard1 hd) rfl hm.1 (by decide) dX3_offerPairs_57 ?_
    rw [show J (d + 1) ((cbl rows).getD j 0) = snd base ((cbl rows).getD j 0 : Int) from (by rw [hO.1.1 _ hm.1]; unfold ntc; rw [if_pos hm.2.2])]
    refine z_ior B dX3_offerPairs_58 ?_
    refine z_callVv [.int (zI ((cbl rows).getD i 0 : Int)), .int (zI ((cbl rows).getD j 0 : Int)), .int (zI 2), .int (zI (zor (snd base ((cbl rows).getD i 0 : Int)) (snd base ((cbl rows).getD j 0 : Int))))] B lv_X3_47 (mX3_offer hG hg J (f := ((cbl rows).getD i 0 : Int)) (z := ((cbl rows).getD j 0 : Int)) (b := 2) (nt := zor (snd base ((cbl rows).getD i 0 : Int)) (snd base ((cbl rows).getD j 0 : Int))) ⟨by omega, by omega⟩ ⟨by omega, by omega⟩ (by omega) (by omega) hsn2.1 hsn2.2 hO.2.2.2.1 hO.2.2.2.2.1 hO.2.2.2.2.2.1 hO.2.2.2.2.2.2 s hs ok) (kGoods hg) (bGoods hg) rfl rfl (Nat.le_of_ble_eq_true rfl) (by decide) (by decide) dX3_offerPairs_59 (fun J1 hJ1 => ?_)
    refine z_iinc (fun v9 => [(0, .ref (gx_ad G g)), (1, .ref (gx_ad G d)), (2, .int (zI (i : Int))), (3, .int (zI ((cbl rows).getD i 0 : Int))), (4, .int (zI v9)), (5, .int (zI ((cbl rows).getD j 0 : Int)))]) B dX3_offerPairs_62 rfl (by decide) rfl (fun _ => rfl) (fun v4 hv4 => ?_)
    rw [show v4 = ((j + 1 : Nat) : Int) from (by omega)]
    refine gx_goto (tgt := 22) B dX3_offerPairs_65 (by decide) ?_
    refine gx_sub [0, 1, 2, 3, 4] rfl ?_
    obtain ⟨hO1, e5, e6, e7⟩ := hO.keep hg hd hJ1.2
    have h9 := hJ1.1
    rw [hw, hl] at h9
    refine ih (by omega) J1 (offS (rnk w (zor (snd base ((cbl rows).getD i 0 : Int)) (snd base ((cbl rows).getD j 0 : Int))) 2) ((cbl rows).getD i 0 : Int) ((cbl rows).getD j 0 : Int) ls s) hO1 (by rw [e5]; exact hw) (by rw [e6, e7]; exact hl) h9 (okS_off ok (rnk_le (by omega) (by omega)) ⟨by omega, by omega⟩ ⟨by omega, by omega⟩ hls hln) (fun a k h1 h2 => (hJ1.2 a k h1 h2).trans (hfr a k h1 h2)) ?_
    rw [hF, drop_cons (show j < (cbl rows).length by omega)]
    rfl

theorem lpPrO {G : gx_G} {X : gx_X} (hG : gx_OK G 76) (B : gx_B G X RX3 cX3_offerPairs 6 rmX3_offerPairs 76) {g d : Nat} (hg : isGoods g) (hd : isBoard d) {J0 : zJ} {base rows w : Int} {ls : List Int} (hls : ∀ l ∈ ls, bt1 l) (hln : ls ≠ []) (F : GSt) (Rt : gx_Rv G X (zpv (fun J' => GSB J' g F ∧ OFr J0 J' g))) : ∀ i : Nat, i ≤ (cbl rows).length → ∀ (J : zJ) (s : GSt), Offer J g d base rows → J g 5 = w → lowsOf (J g 6) (J g 7) = ls → GSB J g s → okS s → OFr J0 J g → F = prS w base ls s ((cbl rows).drop i) → gx_WG G X 6 (zh J) 2 [(0, .ref (gx_ad G g)), (1, .ref (gx_ad G d)), (2, .int (zI (i : Int)))] [] := by
  refine up_ind (fun i hi ih => ?_)
  intro J s hO hw hl hs ok hfr hF
  have hT2 := hO.1.2.1
  have h48 : (cbl rows).length ≤ 48 := cbl_len (by omega)
  refine gx_iload_n B dX3_offerPairs_2 rfl rfl ?_
  refine gx_aload_n B dX3_offerPairs_3 rfl rfl ?_
  refine z_geti B fl_X3_62 (kBoard hd) (bBoard hd) (zBoard2 hd) dX3_offerPairs_4 ?_
  refine z_icmp_ge (tgt := 74) B dX3_offerPairs_7 ⟨by omega, by omega⟩ ⟨by omega, by omega⟩ (by decide) (fun c7 => ?_) (fun c7 => ?_)
  · refine z_ret B Rt dX3_offerPairs_74 ?_
    rw [List.drop_eq_nil_of_le (show (cbl rows).length ≤ i by omega)] at hF
    rw [hF]
    exact ⟨hs, hfr⟩
  · refine gx_aload_n B dX3_offerPairs_10 rfl rfl ?_
    refine gx_getr (t := (d + 2)) B fl_X3_65 (kBoard hd) (bBoard hd) (rBoard1 hd) dX3_offerPairs_11 ?_
    refine gx_iload_n B dX3_offerPairs_14 rfl rfl ?_
    refine z_iald i B (aBoard2 hd) (cBoard2 hd) rfl (show i < 48 by omega) (by decide) dX3_offerPairs_15 ?_
    refine z_istore_n (fun v9 => [(0, .ref (gx_ad G g)), (1, .ref (gx_ad G d)), (2, .int (zI (i : Int))), (3, .int (zI v9))]) B dX3_offerPairs_16 rfl (by decide) rfl (fun _ => rfl) (fun v3 hv3 => ?_)
    rw [show v3 = ((cbl rows).getD i 0 : Int) from (by rw [hv3]; exact hO.1.2.2 i (by omega))]
    refine gx_iload_n B dX3_offerPairs_17 rfl rfl ?_
    refine z_iconst B dX3_offerPairs_18 ?_
    refine z_iadd B dX3_offerPairs_19 ?_
    refine z_istore (fun v9 => [(0, .ref (gx_ad G g)), (1, .ref (gx_ad G d)), (2, .int (zI (i : Int))), (3, .int (zI ((cbl rows).getD i 0 : Int))), (4, .int (zI v9))]) B dX3_offerPairs_20 (by decide) rfl (fun _ => rfl) (fun v4 hv4 => ?_)
    rw [show v4 = ((i + 1 : Nat) : Int) from (by omega)]
    have hma := cblN_mem (cbl_at (rows := rows) (i := i) (by omega))
    refine lpPrI hG B hg hd hls hln F (i := i) (by omega) ?_ (i + 1) (by omega) J s hO hw hl hs ok hfr ?_
    · intro J s hO hw hl hs ok hfr hF
      refine z_iinc (fun v9 => [(0, .ref (gx_ad G g)), (1, .ref (gx_ad G d)), (2, .int (zI v9))]) B dX3_offerPairs_68 rfl (by decide) rfl (fun _ => rfl) (fun v2 hv2 => ?_)
      rw [show v2 = ((i + 1 : Nat) : Int) from (by omega)]
      refine gx_goto (tgt := 2) B dX3_offerPairs_71 (by decide) ?_
      exact ih (by omega) J s hO hw hl hs ok hfr hF
    · rw [hF, drop_cons (show i < (cbl rows).length by omega)]
      rfl

theorem mX3_offerPairs {l : Launch} {G : gx_G} (hG : gx_OK G 76) {g d : Nat} (hg : isGoods g) (hd : isBoard d) (J : zJ) {base rows : Int} (hO : Offer J g d base rows) (s0 : GSt) (hs : GSB J g s0) (ok0 : okS s0) : zMv l G yX3_offerPairs cX3_offerPairs 6 rmX3_offerPairs [.ref (gx_ad G g), .ref (gx_ad G d)] J (fun J' => GSB J' g (prS (J g 5) base (lowsOf (J g 6) (J g 7)) s0 (cbl rows)) ∧ OFr J J' g) := by
  refine gx_mv hG (by decide) (Nat.le_of_ble_eq_true rfl) (fun X hla B Rt => ?_)
  subst hla
  have B : gx_B G X RX3 cX3_offerPairs 6 rmX3_offerPairs 76 := B
  show gx_WG G X 6 (zh J) 0 [(0, .ref (gx_ad G g)), (1, .ref (gx_ad G d))] []
  refine z_iconst B dX3_offerPairs_0 ?_
  refine z_istore_n (fun v9 => [(0, .ref (gx_ad G g)), (1, .ref (gx_ad G d)), (2, .int (zI v9))]) B dX3_offerPairs_1 rfl (by decide) rfl (fun _ => rfl) (fun v9 hv9 => ?_)
  rw [hv9]
  exact lpPrO hG B hg hd (lowsOf_bt hO.2.2.2.2.2.1 hO.2.2.2.2.2.2) (lowsOf_ne _ _) _ Rt 0 (by omega) J s0 hO rfl rfl hs ok0 (fun _ _ _ _ => rfl) rfl

