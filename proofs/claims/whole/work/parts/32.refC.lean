
/-- what a way costs, 1000 for what may not be -/
def csN (n t : Int) (u mk mz : Nat → Int) (st room : Int) : Nat → Int
  | 0 => 0
  | b + 1 => csN n t u mk mz st room b + (if trn n t b then mz (mk b).toNat else 0) + (if 0 ≤ airN n t u st (b + 1) ∧ airN n t u st (b + 1) ≤ room then 0 else 1000)
theorem csN_le {n t : Int} {u mk mz : Nat → Int} {st room : Int} (hz : ∀ j, j < 4 → 0 ≤ mz j ∧ mz j ≤ 1000) {N : Nat} (hm : ∀ b, b < N → 0 ≤ mk b ∧ mk b ≤ 3) : ∀ b, b ≤ N → 0 ≤ csN n t u mk mz st room b ∧ csN n t u mk mz st room b ≤ 2000 * b
  | 0, _ => by simp [csN]
  | b + 1, h => by
    have h1 := csN_le (n := n) (t := t) (u := u) (st := st) (room := room) hz hm b (by omega)
    have h2 := hm b (by omega)
    have h3 := hz (mk b).toNat (by omega)
    unfold csN
    split <;> split <;> omega
theorem gz_prev (n t : Int) (b : Nat) : gz n t ((b : Int) - 1) = zand (zshr t (n - b)) 1 := by
  unfold gz
  rw [show n - 1 - ((b : Int) - 1) = n - b by omega]
def mkM (J : zJ) (b : Nat) : Int := J 78 (4 * b + 3)
/-- what costOf needs: the numbers, the uses, the marks' prices -/
def CPre (J : zJ) (n : Nat) : Prop := J 77 5 = (n : Int) ∧ n ≤ 8 ∧ (0 ≤ J 77 4 ∧ J 77 4 ≤ 400) ∧ (∀ b, b < n → (0 ≤ J 89 b ∧ J 89 b ≤ 300) ∧ (0 ≤ mkM J b ∧ mkM J b ≤ 3)) ∧ ∀ j, j < 4 → 0 ≤ J 90 j ∧ J 90 j ≤ 1000

theorem lpCost {G : gx_G} {X : gx_X} (hG : gx_OK G 91) (B : gx_B G X RX6 cX6_costOf 9 rmX6_costOf 91) {J : zJ} {n : Nat} {t room : Int} (hC : CPre J n) (hr0 : 0 ≤ room) (hr1 : room ≤ 400) (Rt : gx_Ri G X .int (zpi (fun r J' => r = csN (n : Int) t (J 89) (mkM J) (J 90) (J 77 4) room n ∧ J' = J))) : ∀ i : Nat, i ≤ n → gx_WG G X 9 (zh J) 21 [(0, .ref (gx_ad G 76)), (1, .int (zI t)), (2, .int (zI room)), (3, .int (zI (n : Int))), (4, .int (zI (airN (n : Int) t (J 89) (J 77 4) i))), (5, .int (zI (csN (n : Int) t (J 89) (mkM J) (J 90) (J 77 4) room i))), (6, .int (zI (i : Int)))] [] := by
  refine up_ind (fun i hi ih => ?_)
  obtain ⟨h5, h8, hst, hu, hz⟩ := id hC
  have hai := air_le (n := (n : Int)) (t := t) (fun b hb => (hu b hb).1) hst.1 hst.2 i hi
  have hci := csN_le (n := (n : Int)) (t := t) (u := J 89) (st := J 77 4) (room := room) hz (fun b hb => (hu b hb).2) i hi
  refine gx_iload B dX6_costOf_21 rfl ?_
  refine gx_iload_n B dX6_costOf_23 rfl rfl ?_
  refine z_icmp_ge (tgt := 167) B dX6_costOf_24 ⟨by omega, by omega⟩ ⟨by omega, by omega⟩ (by decide) (fun c24 => ?_) (fun c24 => ?_)
  · refine gx_iload B dX6_costOf_167 rfl ?_
    refine z_ireti B Rt dX6_costOf_169 ?_
    refine ⟨?_, rfl⟩
    rw [show i = n by omega]
  · have hui := hu i (by omega)
    have hai1 := air_le (n := (n : Int)) (t := t) (fun b hb => (hu b hb).1) hst.1 hst.2 (i + 1) (by omega)
    have g0 := gz01 (n : Int) t i
    have hmi : mkM J i = J 78 (4 * i + 3) := rfl
    have hzm := hz (mkM J i).toNat (by omega)
    refine gx_iload_n B dX6_costOf_27 rfl rfl ?_
    refine gx_iload_n B dX6_costOf_28 rfl rfl ?_
    refine z_iconst B dX6_costOf_29 ?_
    refine z_isub B dX6_costOf_30 ?_
    refine gx_iload B dX6_costOf_31 rfl ?_
    refine z_isub B dX6_costOf_33 ?_
    refine z_ishr B dX6_costOf_34 ?_
    refine z_iconst B dX6_costOf_35 ?_
    refine z_iand B dX6_costOf_36 ?_
    refine z_iconst B dX6_costOf_37 ?_
    refine z_icmp_ne (tgt := 45) B dX6_costOf_38 (zandB _ _) ⟨by omega, by omega⟩ (by decide) (fun c38 => ?_) (fun c38 => ?_)
    · have hg0 : gz (n : Int) t i = 0 := g0.resolve_right c38
      refine z_iconst B dX6_costOf_45 ?_
      refine z_istore (fun v9 => [(0, .ref (gx_ad G 76)), (1, .int (zI t)), (2, .int (zI room)), (3, .int (zI (n : Int))), (4, .int (zI (airN (n : Int) t (J 89) (J 77 4) i))), (5, .int (zI (csN (n : Int) t (J 89) (mkM J) (J 90) (J 77 4) room i))), (6, .int (zI (i : Int))), (7, .int (zI v9))]) B dX6_costOf_46 (by decide) rfl (fun _ => rfl) (fun v9 hv9 => ?_)
      rw [hv9]
      refine gx_iload B dX6_costOf_48 rfl ?_
      refine z_if_le (tgt := 78) B dX6_costOf_50 ⟨by omega, by omega⟩ (by decide) (fun c50 => ?_) (fun c50 => ?_)
      · have htr : ¬ trn (n : Int) t i := by omega
        refine z_iconst B dX6_costOf_78 ?_
        refine z_istore (fun v9 => [(0, .ref (gx_ad G 76)), (1, .int (zI t)), (2, .int (zI room)), (3, .int (zI (n : Int))), (4, .int (zI (airN (n : Int) t (J 89) (J 77 4) i))), (5, .int (zI (csN (n : Int) t (J 89) (mkM J) (J 90) (J 77 4) room i))), (6, .int (zI (i : Int))), (7, .int (zI 0)), (8, .int (zI v9))]) B dX6_costOf_79 (by decide) rfl (fun _ => rfl) (fun v9 hv9 => ?_)
        rw [hv9]
        refine gx_iload B dX6_costOf_81 rfl ?_
        refine gx_iload B dX6_costOf_83 rfl ?_
        refine z_if_eq (tgt := 99) B dX6_costOf_85 ⟨by omega, by omega⟩ (by decide) (fun c85_1 => ?_) (fun c85_1 => ?_)
        · refine gx_aload_n B dX6_costOf_99 rfl rfl ?_
          refine gx_getr (t := 89) B fl_X6_46 rfl (by decide) rfl dX6_costOf_100 ?_
          refine gx_iload B dX6_costOf_103 rfl ?_
          refine z_iald i B rfl (by decide) rfl (show i < 8 by omega) (by decide) dX6_costOf_105 ?_
          refine z_iadd B dX6_costOf_106 ?_
          refine z_istore (fun v9 => [(0, .ref (gx_ad G 76)), (1, .int (zI t)), (2, .int (zI room)), (3, .int (zI (n : Int))), (4, .int (zI v9)), (5, .int (zI (csN (n : Int) t (J 89) (mkM J) (J 90) (J 77 4) room i))), (6, .int (zI (i : Int))), (7, .int (zI 0)), (8, .int (zI 0))]) B dX6_costOf_107 (by decide) rfl (fun _ => rfl) (fun v4 hv4 => ?_)
          rw [show v4 = airN (n : Int) t (J 89) (J 77 4) (i + 1) from (by rw [hv4]; show _ = airN (n : Int) t (J 89) (J 77 4) i + mvZ (n : Int) t (J 89) i; unfold mvZ; first | rw [if_pos hg0] | rw [if_neg hg0])]
          refine gx_iload B dX6_costOf_109 rfl ?_
          refine gx_iload B dX6_costOf_111 rfl ?_
          refine z_if_eq (tgt := 135) B dX6_costOf_113 ⟨by omega, by omega⟩ (by decide) (fun c113_2 => ?_) (fun c113_2 => ?_)
          · refine z_iconst B dX6_costOf_135 ?_
            refine z_iadd B dX6_costOf_136 ?_
            refine z_istore (fun v9 => [(0, .ref (gx_ad G 76)), (1, .int (zI t)), (2, .int (zI room)), (3, .int (zI (n : Int))), (4, .int (zI (airN (n : Int) t (J 89) (J 77 4) (i + 1)))), (5, .int (zI v9)), (6, .int (zI (i : Int))), (7, .int (zI 0)), (8, .int (zI 0))]) B dX6_costOf_137 (by decide) rfl (fun _ => rfl) (fun v5 hv5 => ?_)
            rw [show v5 = csN (n : Int) t (J 89) (mkM J) (J 90) (J 77 4) room i + (if trn (n : Int) t i then J 90 (mkM J i).toNat else 0) from (by rw [hv5]; first | rw [if_pos htr] | rw [if_neg htr])]
            refine gx_iload B dX6_costOf_139 rfl ?_
            refine gx_iload B dX6_costOf_141 rfl ?_
            refine z_iconst B dX6_costOf_143 ?_
            refine gx_iload_n B dX6_costOf_144 rfl rfl ?_
            refine z_callSi [.int (zI (airN (n : Int) t (J 89) (J 77 4) (i + 1))), .int (zI 0), .int (zI room)] B ls_X6_52 (mX6_in hG J (v := airN (n : Int) t (J 89) (J 77 4) (i + 1)) (a := 0) (b := room) ⟨by omega, by omega⟩ ⟨by omega, by omega⟩ ⟨by omega, by omega⟩) rfl rfl (Nat.le_of_ble_eq_true rfl) (by decide) (by decide) dX6_costOf_145 (fun r4 J3 hJ3 => ?_)
            rw [show r4 = bz (0 ≤ airN (n : Int) t (J 89) (J 77 4) (i + 1) ∧ airN (n : Int) t (J 89) (J 77 4) (i + 1) ≤ room) from hJ3.1, hJ3.2]
            refine z_if_eq (tgt := 155) B dX6_costOf_148 (bzB _) (by decide) (fun c148 => ?_) (fun c148 => ?_)
            · rw [bz_0] at c148
              refine z_sipush B dX6_costOf_155 (by decide) ?_
              refine z_iadd B dX6_costOf_158 ?_
              refine z_istore (fun v9 => [(0, .ref (gx_ad G 76)), (1, .int (zI t)), (2, .int (zI room)), (3, .int (zI (n : Int))), (4, .int (zI (airN (n : Int) t (J 89) (J 77 4) (i + 1)))), (5, .int (zI v9)), (6, .int (zI (i : Int))), (7, .int (zI 0)), (8, .int (zI 0))]) B dX6_costOf_159 (by decide) rfl (fun _ => rfl) (fun v5b hv5b => ?_)
              rw [show v5b = csN (n : Int) t (J 89) (mkM J) (J 90) (J 77 4) room (i + 1) from (by rw [hv5b]; show _ = csN (n : Int) t (J 89) (mkM J) (J 90) (J 77 4) room i + (if trn (n : Int) t i then J 90 (mkM J i).toNat else 0) + (if 0 ≤ airN (n : Int) t (J 89) (J 77 4) (i + 1) ∧ airN (n : Int) t (J 89) (J 77 4) (i + 1) ≤ room then 0 else 1000); first | rw [if_pos c148] | rw [if_neg c148])]
              refine z_iinc (fun v9 => [(0, .ref (gx_ad G 76)), (1, .int (zI t)), (2, .int (zI room)), (3, .int (zI (n : Int))), (4, .int (zI (airN (n : Int) t (J 89) (J 77 4) (i + 1)))), (5, .int (zI (csN (n : Int) t (J 89) (mkM J) (J 90) (J 77 4) room (i + 1)))), (6, .int (zI v9)), (7, .int (zI 0)), (8, .int (zI 0))]) B dX6_costOf_161 rfl (by decide) rfl (fun _ => rfl) (fun v6 hv6 => ?_)
              rw [show v6 = ((i + 1 : Nat) : Int) from (by omega)]
              refine gx_goto (tgt := 21) B dX6_costOf_164 (by decide) ?_
              refine gx_sub [0, 1, 2, 3, 4, 5, 6] rfl ?_
              exact ih (by omega)
            · rw [bz_n0] at c148
              refine z_iconst B dX6_costOf_151 ?_
              refine gx_goto (tgt := 158) B dX6_costOf_152 (by decide) ?_
              refine z_iadd B dX6_costOf_158 ?_
              refine z_istore (fun v9 => [(0, .ref (gx_ad G 76)), (1, .int (zI t)), (2, .int (zI room)), (3, .int (zI (n : Int))), (4, .int (zI (airN (n : Int) t (J 89) (J 77 4) (i + 1)))), (5, .int (zI v9)), (6, .int (zI (i : Int))), (7, .int (zI 0)), (8, .int (zI 0))]) B dX6_costOf_159 (by decide) rfl (fun _ => rfl) (fun v5b hv5b => ?_)
              rw [show v5b = csN (n : Int) t (J 89) (mkM J) (J 90) (J 77 4) room (i + 1) from (by rw [hv5b]; show _ = csN (n : Int) t (J 89) (mkM J) (J 90) (J 77 4) room i + (if trn (n : Int) t i then J 90 (mkM J i).toNat else 0) + (if 0 ≤ airN (n : Int) t (J 89) (J 77 4) (i + 1) ∧ airN (n : Int) t (J 89) (J 77 4) (i + 1) ≤ room then 0 else 1000); first | rw [if_pos c148] | rw [if_neg c148])]
              refine z_iinc (fun v9 => [(0, .ref (gx_ad G 76)), (1, .int (zI t)), (2, .int (zI room)), (3, .int (zI (n : Int))), (4, .int (zI (airN (n : Int) t (J 89) (J 77 4) (i + 1)))), (5, .int (zI (csN (n : Int) t (J 89) (mkM J) (J 90) (J 77 4) room (i + 1)))), (6, .int (zI v9)), (7, .int (zI 0)), (8, .int (zI 0))]) B dX6_costOf_161 rfl (by decide) rfl (fun _ => rfl) (fun v6 hv6 => ?_)
              rw [show v6 = ((i + 1 : Nat) : Int) from (by omega)]
              refine gx_goto (tgt := 21) B dX6_costOf_164 (by decide) ?_
              refine gx_sub [0, 1, 2, 3, 4, 5, 6] rfl ?_
              exact ih (by omega)
          · exact absurd c113_2 (by decide)
        · exact absurd c85_1 (by decide)
      · refine gx_iload_n B dX6_costOf_53 rfl rfl ?_
        refine gx_iload_n B dX6_costOf_54 rfl rfl ?_
        refine gx_iload B dX6_costOf_55 rfl ?_
        refine z_isub B dX6_costOf_57 ?_
        refine z_ishr B dX6_costOf_58 ?_
        refine z_iconst B dX6_costOf_59 ?_
        refine z_iand B dX6_costOf_60 ?_
        refine gx_iload_n B dX6_costOf_61 rfl rfl ?_
        refine gx_iload_n B dX6_costOf_62 rfl rfl ?_
        refine z_iconst B dX6_costOf_63 ?_
        refine z_isub B dX6_costOf_64 ?_
        refine gx_iload B dX6_costOf_65 rfl ?_
        refine z_isub B dX6_costOf_67 ?_
        refine z_ishr B dX6_costOf_68 ?_
        refine z_iconst B dX6_costOf_69 ?_
        refine z_iand B dX6_costOf_70 ?_
        refine z_icmp_eq (tgt := 78) B dX6_costOf_71 (zandB _ _) (zandB _ _) (by decide) (fun c71 => ?_) (fun c71 => ?_)
        · have htr : ¬ trn (n : Int) t i := fun q => q.2 (by rw [gz_prev]; exact c71.symm)
          refine z_iconst B dX6_costOf_78 ?_
          refine z_istore (fun v9 => [(0, .ref (gx_ad G 76)), (1, .int (zI t)), (2, .int (zI room)), (3, .int (zI (n : Int))), (4, .int (zI (airN (n : Int) t (J 89) (J 77 4) i))), (5, .int (zI (csN (n : Int) t (J 89) (mkM J) (J 90) (J 77 4) room i))), (6, .int (zI (i : Int))), (7, .int (zI 0)), (8, .int (zI v9))]) B dX6_costOf_79 (by decide) rfl (fun _ => rfl) (fun v9 hv9 => ?_)
          rw [hv9]
          refine gx_iload B dX6_costOf_81 rfl ?_
          refine gx_iload B dX6_costOf_83 rfl ?_
          refine z_if_eq (tgt := 99) B dX6_costOf_85 ⟨by omega, by omega⟩ (by decide) (fun c85_5 => ?_) (fun c85_5 => ?_)
          · refine gx_aload_n B dX6_costOf_99 rfl rfl ?_
            refine gx_getr (t := 89) B fl_X6_46 rfl (by decide) rfl dX6_costOf_100 ?_
            refine gx_iload B dX6_costOf_103 rfl ?_
            refine z_iald i B rfl (by decide) rfl (show i < 8 by omega) (by decide) dX6_costOf_105 ?_
            refine z_iadd B dX6_costOf_106 ?_
            refine z_istore (fun v9 => [(0, .ref (gx_ad G 76)), (1, .int (zI t)), (2, .int (zI room)), (3, .int (zI (n : Int))), (4, .int (zI v9)), (5, .int (zI (csN (n : Int) t (J 89) (mkM J) (J 90) (J 77 4) room i))), (6, .int (zI (i : Int))), (7, .int (zI 0)), (8, .int (zI 0))]) B dX6_costOf_107 (by decide) rfl (fun _ => rfl) (fun v4 hv4 => ?_)
            rw [show v4 = airN (n : Int) t (J 89) (J 77 4) (i + 1) from (by rw [hv4]; show _ = airN (n : Int) t (J 89) (J 77 4) i + mvZ (n : Int) t (J 89) i; unfold mvZ; first | rw [if_pos hg0] | rw [if_neg hg0])]
            refine gx_iload B dX6_costOf_109 rfl ?_
            refine gx_iload B dX6_costOf_111 rfl ?_
            refine z_if_eq (tgt := 135) B dX6_costOf_113 ⟨by omega, by omega⟩ (by decide) (fun c113_6 => ?_) (fun c113_6 => ?_)
            · refine z_iconst B dX6_costOf_135 ?_
              refine z_iadd B dX6_costOf_136 ?_
              refine z_istore (fun v9 => [(0, .ref (gx_ad G 76)), (1, .int (zI t)), (2, .int (zI room)), (3, .int (zI (n : Int))), (4, .int (zI (airN (n : Int) t (J 89) (J 77 4) (i + 1)))), (5, .int (zI v9)), (6, .int (zI (i : Int))), (7, .int (zI 0)), (8, .int (zI 0))]) B dX6_costOf_137 (by decide) rfl (fun _ => rfl) (fun v5 hv5 => ?_)
              rw [show v5 = csN (n : Int) t (J 89) (mkM J) (J 90) (J 77 4) room i + (if trn (n : Int) t i then J 90 (mkM J i).toNat else 0) from (by rw [hv5]; first | rw [if_pos htr] | rw [if_neg htr])]
              refine gx_iload B dX6_costOf_139 rfl ?_
              refine gx_iload B dX6_costOf_141 rfl ?_
              refine z_iconst B dX6_costOf_143 ?_
              refine gx_iload_n B dX6_costOf_144 rfl rfl ?_
              refine z_callSi [.int (zI (airN (n : Int) t (J 89) (J 77 4) (i + 1))), .int (zI 0), .int (zI room)] B ls_X6_52 (mX6_in hG J (v := airN (n : Int) t (J 89) (J 77 4) (i + 1)) (a := 0) (b := room) ⟨by omega, by omega⟩ ⟨by omega, by omega⟩ ⟨by omega, by omega⟩) rfl rfl (Nat.le_of_ble_eq_true rfl) (by decide) (by decide) dX6_costOf_145 (fun r8 J7 hJ7 => ?_)
              rw [show r8 = bz (0 ≤ airN (n : Int) t (J 89) (J 77 4) (i + 1) ∧ airN (n : Int) t (J 89) (J 77 4) (i + 1) ≤ room) from hJ7.1, hJ7.2]
              refine z_if_eq (tgt := 155) B dX6_costOf_148 (bzB _) (by decide) (fun c148 => ?_) (fun c148 => ?_)
              · rw [bz_0] at c148
                refine z_sipush B dX6_costOf_155 (by decide) ?_
                refine z_iadd B dX6_costOf_158 ?_
                refine z_istore (fun v9 => [(0, .ref (gx_ad G 76)), (1, .int (zI t)), (2, .int (zI room)), (3, .int (zI (n : Int))), (4, .int (zI (airN (n : Int) t (J 89) (J 77 4) (i + 1)))), (5, .int (zI v9)), (6, .int (zI (i : Int))), (7, .int (zI 0)), (8, .int (zI 0))]) B dX6_costOf_159 (by decide) rfl (fun _ => rfl) (fun v5b hv5b => ?_)
                rw [show v5b = csN (n : Int) t (J 89) (mkM J) (J 90) (J 77 4) room (i + 1) from (by rw [hv5b]; show _ = csN (n : Int) t (J 89) (mkM J) (J 90) (J 77 4) room i + (if trn (n : Int) t i then J 90 (mkM J i).toNat else 0) + (if 0 ≤ airN (n : Int) t (J 89) (J 77 4) (i + 1) ∧ airN (n : Int) t (J 89) (J 77 4) (i + 1) ≤ room then 0 else 1000); first | rw [if_pos c148] | rw [if_neg c148])]
                refine z_iinc (fun v9 => [(0, .ref (gx_ad G 76)), (1, .int (zI t)), (2, .int (zI room)), (3, .int (zI (n : Int))), (4, .int (zI (airN (n : Int) t (J 89) (J 77 4) (i + 1)))), (5, .int (zI (csN (n : Int) t (J 89) (mkM J) (J 90) (J 77 4) room (i + 1)))), (6, .int (zI v9)), (7, .int (zI 0)), (8, .int (zI 0))]) B dX6_costOf_161 rfl (by decide) rfl (fun _ => rfl) (fun v6 hv6 => ?_)
                rw [show v6 = ((i + 1 : Nat) : Int) from (by omega)]
                refine gx_goto (tgt := 21) B dX6_costOf_164 (by decide) ?_
                refine gx_sub [0, 1, 2, 3, 4, 5, 6] rfl ?_
                exact ih (by omega)
              · rw [bz_n0] at c148
                refine z_iconst B dX6_costOf_151 ?_
                refine gx_goto (tgt := 158) B dX6_costOf_152 (by decide) ?_
                refine z_iadd B dX6_costOf_158 ?_
                refine z_istore (fun v9 => [(0, .ref (gx_ad G 76)), (1, .int (zI t)), (2, .int (zI room)), (3, .int (zI (n : Int))), (4, .int (zI (airN (n : Int) t (J 89) (J 77 4) (i + 1)))), (5, .int (zI v9)), (6, .int (zI (i : Int))), (7, .int (zI 0)), (8, .int (zI 0))]) B dX6_costOf_159 (by decide) rfl (fun _ => rfl) (fun v5b hv5b => ?_)
                rw [show v5b = csN (n : Int) t (J 89) (mkM J) (J 90) (J 77 4) room (i + 1) from (by rw [hv5b]; show _ = csN (n : Int) t (J 89) (mkM J) (J 90) (J 77 4) room i + (if trn (n : Int) t i then J 90 (mkM J i).toNat else 0) + (if 0 ≤ airN (n : Int) t (J 89) (J 77 4) (i + 1) ∧ airN (n : Int) t (J 89) (J 77 4) (i + 1) ≤ room then 0 else 1000); first | rw [if_pos c148] | rw [if_neg c148])]
                refine z_iinc (fun v9 => [(0, .ref (gx_ad G 76)), (1, .int (zI t)), (2, .int (zI room)), (3, .int (zI (n : Int))), (4, .int (zI (airN (n : Int) t (J 89) (J 77 4) (i + 1)))), (5, .int (zI (csN (n : Int) t (J 89) (mkM J) (J 90) (J 77 4) room (i + 1)))), (6, .int (zI v9)), (7, .int (zI 0)), (8, .int (zI 0))]) B dX6_costOf_161 rfl (by decide) rfl (fun _ => rfl) (fun v6 hv6 => ?_)
                rw [show v6 = ((i + 1 : Nat) : Int) from (by omega)]
                refine gx_goto (tgt := 21) B dX6_costOf_164 (by decide) ?_
                refine gx_sub [0, 1, 2, 3, 4, 5, 6] rfl ?_
                exact ih (by omega)
            · exact absurd c113_6 (by decide)
          · exact absurd c85_5 (by decide)
        · have htr : trn (n : Int) t i := ⟨by omega, fun q => c71 (by rw [gz_prev] at q; exact q.symm)⟩
          refine z_iconst B dX6_costOf_74 ?_
          refine gx_goto (tgt := 79) B dX6_costOf_75 (by decide) ?_
          refine z_istore (fun v9 => [(0, .ref (gx_ad G 76)), (1, .int (zI t)), (2, .int (zI room)), (3, .int (zI (n : Int))), (4, .int (zI (airN (n : Int) t (J 89) (J 77 4) i))), (5, .int (zI (csN (n : Int) t (J 89) (mkM J) (J 90) (J 77 4) room i))), (6, .int (zI (i : Int))), (7, .int (zI 0)), (8, .int (zI v9))]) B dX6_costOf_79 (by decide) rfl (fun _ => rfl) (fun v9 hv9 => ?_)
          rw [hv9]
          refine gx_iload B dX6_costOf_81 rfl ?_
          refine gx_iload B dX6_costOf_83 rfl ?_
          refine z_if_eq (tgt := 99) B dX6_costOf_85 ⟨by omega, by omega⟩ (by decide) (fun c85_9 => ?_) (fun c85_9 => ?_)
          · refine gx_aload_n B dX6_costOf_99 rfl rfl ?_
            refine gx_getr (t := 89) B fl_X6_46 rfl (by decide) rfl dX6_costOf_100 ?_
            refine gx_iload B dX6_costOf_103 rfl ?_
            refine z_iald i B rfl (by decide) rfl (show i < 8 by omega) (by decide) dX6_costOf_105 ?_
            refine z_iadd B dX6_costOf_106 ?_
            refine z_istore (fun v9 => [(0, .ref (gx_ad G 76)), (1, .int (zI t)), (2, .int (zI room)), (3, .int (zI (n : Int))), (4, .int (zI v9)), (5, .int (zI (csN (n : Int) t (J 89) (mkM J) (J 90) (J 77 4) room i))), (6, .int (zI (i : Int))), (7, .int (zI 0)), (8, .int (zI 1))]) B dX6_costOf_107 (by decide) rfl (fun _ => rfl) (fun v4 hv4 => ?_)
            rw [show v4 = airN (n : Int) t (J 89) (J 77 4) (i + 1) from (by rw [hv4]; show _ = airN (n : Int) t (J 89) (J 77 4) i + mvZ (n : Int) t (J 89) i; unfold mvZ; first | rw [if_pos hg0] | rw [if_neg hg0])]
            refine gx_iload B dX6_costOf_109 rfl ?_
            refine gx_iload B dX6_costOf_111 rfl ?_
            refine z_if_eq (tgt := 135) B dX6_costOf_113 ⟨by omega, by omega⟩ (by decide) (fun c113_10 => ?_) (fun c113_10 => ?_)
            · exact absurd c113_10 (by decide)
            · refine gx_aload_n B dX6_costOf_116 rfl rfl ?_
              refine gx_getr (t := 90) B fl_X6_49 rfl (by decide) rfl dX6_costOf_117 ?_
              refine gx_aload_n B dX6_costOf_120 rfl rfl ?_
              refine gx_getr (t := 78) B fl_X6_13 rfl (by decide) rfl dX6_costOf_121 ?_
              refine z_iconst B dX6_costOf_124 ?_
              refine gx_iload B dX6_costOf_125 rfl ?_
              refine z_imul B dX6_costOf_127 ?_
              refine z_iconst B dX6_costOf_128 ?_
              refine z_iadd B dX6_costOf_129 ?_
              refine z_iald (4 * i + 3) B rfl (by decide) (by omega) (show 4 * i + 3 < 32 by omega) (by decide) dX6_costOf_130 ?_
              refine z_iald ((mkM J i).toNat) B rfl (by decide) (by show J 78 (4 * i + 3) = _; omega) (by omega) (by decide) dX6_costOf_131 ?_
              refine gx_goto (tgt := 136) B dX6_costOf_132 (by decide) ?_
              refine z_iadd B dX6_costOf_136 ?_
              refine z_istore (fun v9 => [(0, .ref (gx_ad G 76)), (1, .int (zI t)), (2, .int (zI room)), (3, .int (zI (n : Int))), (4, .int (zI (airN (n : Int) t (J 89) (J 77 4) (i + 1)))), (5, .int (zI v9)), (6, .int (zI (i : Int))), (7, .int (zI 0)), (8, .int (zI 1))]) B dX6_costOf_137 (by decide) rfl (fun _ => rfl) (fun v5 hv5 => ?_)
              rw [show v5 = csN (n : Int) t (J 89) (mkM J) (J 90) (J 77 4) room i + (if trn (n : Int) t i then J 90 (mkM J i).toNat else 0) from (by rw [hv5]; first | rw [if_pos htr] | rw [if_neg htr])]
              refine gx_iload B dX6_costOf_139 rfl ?_
              refine gx_iload B dX6_costOf_141 rfl ?_
              refine z_iconst B dX6_costOf_143 ?_
              refine gx_iload_n B dX6_costOf_144 rfl rfl ?_
              refine z_callSi [.int (zI (airN (n : Int) t (J 89) (J 77 4) (i + 1))), .int (zI 0), .int (zI room)] B ls_X6_52 (mX6_in hG J (v := airN (n : Int) t (J 89) (J 77 4) (i + 1)) (a := 0) (b := room) ⟨by omega, by omega⟩ ⟨by omega, by omega⟩ ⟨by omega, by omega⟩) rfl rfl (Nat.le_of_ble_eq_true rfl) (by decide) (by decide) dX6_costOf_145 (fun r12 J11 hJ11 => ?_)
              rw [show r12 = bz (0 ≤ airN (n : Int) t (J 89) (J 77 4) (i + 1) ∧ airN (n : Int) t (J 89) (J 77 4) (i + 1) ≤ room) from hJ11.1, hJ11.2]
              refine z_if_eq (tgt := 155) B dX6_costOf_148 (bzB _) (by decide) (fun c148 => ?_) (fun c148 => ?_)
              · rw [bz_0] at c148
                refine z_sipush B dX6_costOf_155 (by decide) ?_
                refine z_iadd B dX6_costOf_158 ?_
                refine z_istore (fun v9 => [(0, .ref (gx_ad G 76)), (1, .int (zI t)), (2, .int (zI room)), (3, .int (zI (n : Int))), (4, .int (zI (airN (n : Int) t (J 89) (J 77 4) (i + 1)))), (5, .int (zI v9)), (6, .int (zI (i : Int))), (7, .int (zI 0)), (8, .int (zI 1))]) B dX6_costOf_159 (by decide) rfl (fun _ => rfl) (fun v5b hv5b => ?_)
                rw [show v5b = csN (n : Int) t (J 89) (mkM J) (J 90) (J 77 4) room (i + 1) from (by rw [hv5b]; show _ = csN (n : Int) t (J 89) (mkM J) (J 90) (J 77 4) room i + (if trn (n : Int) t i then J 90 (mkM J i).toNat else 0) + (if 0 ≤ airN (n : Int) t (J 89) (J 77 4) (i + 1) ∧ airN (n : Int) t (J 89) (J 77 4) (i + 1) ≤ room then 0 else 1000); first | rw [if_pos c148] | rw [if_neg c148])]
                refine z_iinc (fun v9 => [(0, .ref (gx_ad G 76)), (1, .int (zI t)), (2, .int (zI room)), (3, .int (zI (n : Int))), (4, .int (zI (airN (n : Int) t (J 89) (J 77 4) (i + 1)))), (5, .int (zI (csN (n : Int) t (J 89) (mkM J) (J 90) (J 77 4) room (i + 1)))), (6, .int (zI v9)), (7, .int (zI 0)), (8, .int (zI 1))]) B dX6_costOf_161 rfl (by decide) rfl (fun _ => rfl) (fun v6 hv6 => ?_)
                rw [show v6 = ((i + 1 : Nat) : Int) from (by omega)]
                refine gx_goto (tgt := 21) B dX6_costOf_164 (by decide) ?_
                refine gx_sub [0, 1, 2, 3, 4, 5, 6] rfl ?_
                exact ih (by omega)
              · rw [bz_n0] at c148
                refine z_iconst B dX6_costOf_151 ?_
                refine gx_goto (tgt := 158) B dX6_costOf_152 (by decide) ?_
                refine z_iadd B dX6_costOf_158 ?_
                refine z_istore (fun v9 => [(0, .ref (gx_ad G 76)), (1, .int (zI t)), (2, .int (zI room)), (3, .int (zI (n : Int))), (4, .int (zI (airN (n : Int) t (J 89) (J 77 4) (i + 1)))), (5, .int (zI v9)), (6, .int (zI (i : Int))), (7, .int (zI 0)), (8, .int (zI 1))]) B dX6_costOf_159 (by decide) rfl (fun _ => rfl) (fun v5b hv5b => ?_)
                rw [show v5b = csN (n : Int) t (J 89) (mkM J) (J 90) (J 77 4) room (i + 1) from (by rw [hv5b]; show _ = csN (n : Int) t (J 89) (mkM J) (J 90) (J 77 4) room i + (if trn (n : Int) t i then J 90 (mkM J i).toNat else 0) + (if 0 ≤ airN (n : Int) t (J 89) (J 77 4) (i + 1) ∧ airN (n : Int) t (J 89) (J 77 4) (i + 1) ≤ room then 0 else 1000); first | rw [if_pos c148] | rw [if_neg c148])]
                refine z_iinc (fun v9 => [(0, .ref (gx_ad G 76)), (1, .int (zI t)), (2, .int (zI room)), (3, .int (zI (n : Int))), (4, .int (zI (airN (n : Int) t (J 89) (J 77 4) (i + 1)))), (5, .int (zI (csN (n : Int) t (J 89) (mkM J) (J 90) (J 77 4) room (i + 1)))), (6, .int (zI v9)), (7, .int (zI 0)), (8, .int (zI 1))]) B dX6_costOf_161 rfl (by decide) rfl (fun _ => rfl) (fun v6 hv6 => ?_)
                rw [show v6 = ((i + 1 : Nat) : Int) from (by omega)]
                refine gx_goto (tgt := 21) B dX6_costOf_164 (by decide) ?_
                refine gx_sub [0, 1, 2, 3, 4, 5, 6] rfl ?_
                exact ih (by omega)
          · exact absurd c85_9 (by decide)
    · have hg0 : ¬ gz (n : Int) t i = 0 := by have : gz (n : Int) t i = 1 := c38; omega
      refine z_iconst B dX6_costOf_41 ?_
      refine gx_goto (tgt := 46) B dX6_costOf_42 (by decide) ?_
      refine z_istore (fun v9 => [(0, .ref (gx_ad G 76)), (1, .int (zI t)), (2, .int (zI room)), (3, .int (zI (n : Int))), (4, .int (zI (airN (n : Int) t (J 89) (J 77 4) i))), (5, .int (zI (csN (n : Int) t (J 89) (mkM J) (J 90) (J 77 4) room i))), (6, .int (zI (i : Int))), (7, .int (zI v9))]) B dX6_costOf_46 (by decide) rfl (fun _ => rfl) (fun v9 hv9 => ?_)
      rw [hv9]
      refine gx_iload B dX6_costOf_48 rfl ?_
      refine z_if_le (tgt := 78) B dX6_costOf_50 ⟨by omega, by omega⟩ (by decide) (fun c50 => ?_) (fun c50 => ?_)
      · have htr : ¬ trn (n : Int) t i := by omega
        refine z_iconst B dX6_costOf_78 ?_
        refine z_istore (fun v9 => [(0, .ref (gx_ad G 76)), (1, .int (zI t)), (2, .int (zI room)), (3, .int (zI (n : Int))), (4, .int (zI (airN (n : Int) t (J 89) (J 77 4) i))), (5, .int (zI (csN (n : Int) t (J 89) (mkM J) (J 90) (J 77 4) room i))), (6, .int (zI (i : Int))), (7, .int (zI 1)), (8, .int (zI v9))]) B dX6_costOf_79 (by decide) rfl (fun _ => rfl) (fun v9 hv9 => ?_)
        rw [hv9]
        refine gx_iload B dX6_costOf_81 rfl ?_
        refine gx_iload B dX6_costOf_83 rfl ?_
        refine z_if_eq (tgt := 99) B dX6_costOf_85 ⟨by omega, by omega⟩ (by decide) (fun c85_13 => ?_) (fun c85_13 => ?_)
        · exact absurd c85_13 (by decide)
        · refine gx_aload_n B dX6_costOf_88 rfl rfl ?_
          refine gx_getr (t := 89) B fl_X6_46 rfl (by decide) rfl dX6_costOf_89 ?_
          refine gx_iload B dX6_costOf_92 rfl ?_
          refine z_iald i B rfl (by decide) rfl (show i < 8 by omega) (by decide) dX6_costOf_94 ?_
          refine z_ineg B dX6_costOf_95 ?_
          refine gx_goto (tgt := 106) B dX6_costOf_96 (by decide) ?_
          refine z_iadd B dX6_costOf_106 ?_
          refine z_istore (fun v9 => [(0, .ref (gx_ad G 76)), (1, .int (zI t)), (2, .int (zI room)), (3, .int (zI (n : Int))), (4, .int (zI v9)), (5, .int (zI (csN (n : Int) t (J 89) (mkM J) (J 90) (J 77 4) room i))), (6, .int (zI (i : Int))), (7, .int (zI 1)), (8, .int (zI 0))]) B dX6_costOf_107 (by decide) rfl (fun _ => rfl) (fun v4 hv4 => ?_)
          rw [show v4 = airN (n : Int) t (J 89) (J 77 4) (i + 1) from (by rw [hv4]; show _ = airN (n : Int) t (J 89) (J 77 4) i + mvZ (n : Int) t (J 89) i; unfold mvZ; first | rw [if_pos hg0] | rw [if_neg hg0])]
          refine gx_iload B dX6_costOf_109 rfl ?_
          refine gx_iload B dX6_costOf_111 rfl ?_
          refine z_if_eq (tgt := 135) B dX6_costOf_113 ⟨by omega, by omega⟩ (by decide) (fun c113_14 => ?_) (fun c113_14 => ?_)
          · refine z_iconst B dX6_costOf_135 ?_
            refine z_iadd B dX6_costOf_136 ?_
            refine z_istore (fun v9 => [(0, .ref (gx_ad G 76)), (1, .int (zI t)), (2, .int (zI room)), (3, .int (zI (n : Int))), (4, .int (zI (airN (n : Int) t (J 89) (J 77 4) (i + 1)))), (5, .int (zI v9)), (6, .int (zI (i : Int))), (7, .int (zI 1)), (8, .int (zI 0))]) B dX6_costOf_137 (by decide) rfl (fun _ => rfl) (fun v5 hv5 => ?_)
            rw [show v5 = csN (n : Int) t (J 89) (mkM J) (J 90) (J 77 4) room i + (if trn (n : Int) t i then J 90 (mkM J i).toNat else 0) from (by rw [hv5]; first | rw [if_pos htr] | rw [if_neg htr])]
            refine gx_iload B dX6_costOf_139 rfl ?_
            refine gx_iload B dX6_costOf_141 rfl ?_
            refine z_iconst B dX6_costOf_143 ?_
            refine gx_iload_n B dX6_costOf_144 rfl rfl ?_
            refine z_callSi [.int (zI (airN (n : Int) t (J 89) (J 77 4) (i + 1))), .int (zI 0), .int (zI room)] B ls_X6_52 (mX6_in hG J (v := airN (n : Int) t (J 89) (J 77 4) (i + 1)) (a := 0) (b := room) ⟨by omega, by omega⟩ ⟨by omega, by omega⟩ ⟨by omega, by omega⟩) rfl rfl (Nat.le_of_ble_eq_true rfl) (by decide) (by decide) dX6_costOf_145 (fun r16 J15 hJ15 => ?_)
            rw [show r16 = bz (0 ≤ airN (n : Int) t (J 89) (J 77 4) (i + 1) ∧ airN (n : Int) t (J 89) (J 77 4) (i + 1) ≤ room) from hJ15.1, hJ15.2]
            refine z_if_eq (tgt := 155) B dX6_costOf_148 (bzB _) (by decide) (fun c148 => ?_) (fun c148 => ?_)
            · rw [bz_0] at c148
              refine z_sipush B dX6_costOf_155 (by decide) ?_
              refine z_iadd B dX6_costOf_158 ?_
              refine z_istore (fun v9 => [(0, .ref (gx_ad G 76)), (1, .int (zI t)), (2, .int (zI room)), (3, .int (zI (n : Int))), (4, .int (zI (airN (n : Int) t (J 89) (J 77 4) (i + 1)))), (5, .int (zI v9)), (6, .int (zI (i : Int))), (7, .int (zI 1)), (8, .int (zI 0))]) B dX6_costOf_159 (by decide) rfl (fun _ => rfl) (fun v5b hv5b => ?_)
              rw [show v5b = csN (n : Int) t (J 89) (mkM J) (J 90) (J 77 4) room (i + 1) from (by rw [hv5b]; show _ = csN (n : Int) t (J 89) (mkM J) (J 90) (J 77 4) room i + (if trn (n : Int) t i then J 90 (mkM J i).toNat else 0) + (if 0 ≤ airN (n : Int) t (J 89) (J 77 4) (i + 1) ∧ airN (n : Int) t (J 89) (J 77 4) (i + 1) ≤ room then 0 else 1000); first | rw [if_pos c148] | rw [if_neg c148])]
              refine z_iinc (fun v9 => [(0, .ref (gx_ad G 76)), (1, .int (zI t)), (2, .int (zI room)), (3, .int (zI (n : Int))), (4, .int (zI (airN (n : Int) t (J 89) (J 77 4) (i + 1)))), (5, .int (zI (csN (n : Int) t (J 89) (mkM J) (J 90) (J 77 4) room (i + 1)))), (6, .int (zI v9)), (7, .int (zI 1)), (8, .int (zI 0))]) B dX6_costOf_161 rfl (by decide) rfl (fun _ => rfl) (fun v6 hv6 => ?_)
              rw [show v6 = ((i + 1 : Nat) : Int) from (by omega)]
              refine gx_goto (tgt := 21) B dX6_costOf_164 (by decide) ?_
              refine gx_sub [0, 1, 2, 3, 4, 5, 6] rfl ?_
              exact ih (by omega)
            · rw [bz_n0] at c148
              refine z_iconst B dX6_costOf_151 ?_
              refine gx_goto (tgt := 158) B dX6_costOf_152 (by decide) ?_
              refine z_iadd B dX6_costOf_158 ?_
              refine z_istore (fun v9 => [(0, .ref (gx_ad G 76)), (1, .int (zI t)), (2, .int (zI room)), (3, .int (zI (n : Int))), (4, .int (zI (airN (n : Int) t (J 89) (J 77 4) (i + 1)))), (5, .int (zI v9)), (6, .int (zI (i : Int))), (7, .int (zI 1)), (8, .int (zI 0))]) B dX6_costOf_159 (by decide) rfl (fun _ => rfl) (fun v5b hv5b => ?_)
              rw [show v5b = csN (n : Int) t (J 89) (mkM J) (J 90) (J 77 4) room (i + 1) from (by rw [hv5b]; show _ = csN (n : Int) t (J 89) (mkM J) (J 90) (J 77 4) room i + (if trn (n : Int) t i then J 90 (mkM J i).toNat else 0) + (if 0 ≤ airN (n : Int) t (J 89) (J 77 4) (i + 1) ∧ airN (n : Int) t (J 89) (J 77 4) (i + 1) ≤ room then 0 else 1000); first | rw [if_pos c148] | rw [if_neg c148])]
              refine z_iinc (fun v9 => [(0, .ref (gx_ad G 76)), (1, .int (zI t)), (2, .int (zI room)), (3, .int (zI (n : Int))), (4, .int (zI (airN (n : Int) t (J 89) (J 77 4) (i + 1)))), (5, .int (zI (csN (n : Int) t (J 89) (mkM J) (J 90) (J 77 4) room (i + 1)))), (6, .int (zI v9)), (7, .int (zI 1)), (8, .int (zI 0))]) B dX6_costOf_161 rfl (by decide) rfl (fun _ => rfl) (fun v6 hv6 => ?_)
              rw [show v6 = ((i + 1 : Nat) : Int) from (by omega)]
              refine gx_goto (tgt := 21) B dX6_costOf_164 (by decide) ?_
              refine gx_sub [0, 1, 2, 3, 4, 5, 6] rfl ?_
              exact ih (by omega)
          · exact absurd c113_14 (by decide)
      · refine gx_iload_n B dX6_costOf_53 rfl rfl ?_
        refine gx_iload_n B dX6_costOf_54 rfl rfl ?_
        refine gx_iload B dX6_costOf_55 rfl ?_
        refine z_isub B dX6_costOf_57 ?_
        refine z_ishr B dX6_costOf_58 ?_
        refine z_iconst B dX6_costOf_59 ?_
        refine z_iand B dX6_costOf_60 ?_
        refine gx_iload_n B dX6_costOf_61 rfl rfl ?_
        refine gx_iload_n B dX6_costOf_62 rfl rfl ?_
        refine z_iconst B dX6_costOf_63 ?_
        refine z_isub B dX6_costOf_64 ?_
        refine gx_iload B dX6_costOf_65 rfl ?_
        refine z_isub B dX6_costOf_67 ?_
        refine z_ishr B dX6_costOf_68 ?_
        refine z_iconst B dX6_costOf_69 ?_
        refine z_iand B dX6_costOf_70 ?_
        refine z_icmp_eq (tgt := 78) B dX6_costOf_71 (zandB _ _) (zandB _ _) (by decide) (fun c71 => ?_) (fun c71 => ?_)
        · have htr : ¬ trn (n : Int) t i := fun q => q.2 (by rw [gz_prev]; exact c71.symm)
          refine z_iconst B dX6_costOf_78 ?_
          refine z_istore (fun v9 => [(0, .ref (gx_ad G 76)), (1, .int (zI t)), (2, .int (zI room)), (3, .int (zI (n : Int))), (4, .int (zI (airN (n : Int) t (J 89) (J 77 4) i))), (5, .int (zI (csN (n : Int) t (J 89) (mkM J) (J 90) (J 77 4) room i))), (6, .int (zI (i : Int))), (7, .int (zI 1)), (8, .int (zI v9))]) B dX6_costOf_79 (by decide) rfl (fun _ => rfl) (fun v9 hv9 => ?_)
          rw [hv9]
          refine gx_iload B dX6_costOf_81 rfl ?_
          refine gx_iload B dX6_costOf_83 rfl ?_
          refine z_if_eq (tgt := 99) B dX6_costOf_85 ⟨by omega, by omega⟩ (by decide) (fun c85_17 => ?_) (fun c85_17 => ?_)
          · exact absurd c85_17 (by decide)
          · refine gx_aload_n B dX6_costOf_88 rfl rfl ?_
            refine gx_getr (t := 89) B fl_X6_46 rfl (by decide) rfl dX6_costOf_89 ?_
            refine gx_iload B dX6_costOf_92 rfl ?_
            refine z_iald i B rfl (by decide) rfl (show i < 8 by omega) (by decide) dX6_costOf_94 ?_
            refine z_ineg B dX6_costOf_95 ?_
            refine gx_goto (tgt := 106) B dX6_costOf_96 (by decide) ?_
            refine z_iadd B dX6_costOf_106 ?_
            refine z_istore (fun v9 => [(0, .ref (gx_ad G 76)), (1, .int (zI t)), (2, .int (zI room)), (3, .int (zI (n : Int))), (4, .int (zI v9)), (5, .int (zI (csN (n : Int) t (J 89) (mkM J) (J 90) (J 77 4) room i))), (6, .int (zI (i : Int))), (7, .int (zI 1)), (8, .int (zI 0))]) B dX6_costOf_107 (by decide) rfl (fun _ => rfl) (fun v4 hv4 => ?_)
            rw [show v4 = airN (n : Int) t (J 89) (J 77 4) (i + 1) from (by rw [hv4]; show _ = airN (n : Int) t (J 89) (J 77 4) i + mvZ (n : Int) t (J 89) i; unfold mvZ; first | rw [if_pos hg0] | rw [if_neg hg0])]
            refine gx_iload B dX6_costOf_109 rfl ?_
            refine gx_iload B dX6_costOf_111 rfl ?_
            refine z_if_eq (tgt := 135) B dX6_costOf_113 ⟨by omega, by omega⟩ (by decide) (fun c113_18 => ?_) (fun c113_18 => ?_)
            · refine z_iconst B dX6_costOf_135 ?_
              refine z_iadd B dX6_costOf_136 ?_
              refine z_istore (fun v9 => [(0, .ref (gx_ad G 76)), (1, .int (zI t)), (2, .int (zI room)), (3, .int (zI (n : Int))), (4, .int (zI (airN (n : Int) t (J 89) (J 77 4) (i + 1)))), (5, .int (zI v9)), (6, .int (zI (i : Int))), (7, .int (zI 1)), (8, .int (zI 0))]) B dX6_costOf_137 (by decide) rfl (fun _ => rfl) (fun v5 hv5 => ?_)
              rw [show v5 = csN (n : Int) t (J 89) (mkM J) (J 90) (J 77 4) room i + (if trn (n : Int) t i then J 90 (mkM J i).toNat else 0) from (by rw [hv5]; first | rw [if_pos htr] | rw [if_neg htr])]
              refine gx_iload B dX6_costOf_139 rfl ?_
              refine gx_iload B dX6_costOf_141 rfl ?_
              refine z_iconst B dX6_costOf_143 ?_
              refine gx_iload_n B dX6_costOf_144 rfl rfl ?_
              refine z_callSi [.int (zI (airN (n : Int) t (J 89) (J 77 4) (i + 1))), .int (zI 0), .int (zI room)] B ls_X6_52 (mX6_in hG J (v := airN (n : Int) t (J 89) (J 77 4) (i + 1)) (a := 0) (b := room) ⟨by omega, by omega⟩ ⟨by omega, by omega⟩ ⟨by omega, by omega⟩) rfl rfl (Nat.le_of_ble_eq_true rfl) (by decide) (by decide) dX6_costOf_145 (fun r20 J19 hJ19 => ?_)
              rw [show r20 = bz (0 ≤ airN (n : Int) t (J 89) (J 77 4) (i + 1) ∧ airN (n : Int) t (J 89) (J 77 4) (i + 1) ≤ room) from hJ19.1, hJ19.2]
              refine z_if_eq (tgt := 155) B dX6_costOf_148 (bzB _) (by decide) (fun c148 => ?_) (fun c148 => ?_)
              · rw [bz_0] at c148
                refine z_sipush B dX6_costOf_155 (by decide) ?_
                refine z_iadd B dX6_costOf_158 ?_
                refine z_istore (fun v9 => [(0, .ref (gx_ad G 76)), (1, .int (zI t)), (2, .int (zI room)), (3, .int (zI (n : Int))), (4, .int (zI (airN (n : Int) t (J 89) (J 77 4) (i + 1)))), (5, .int (zI v9)), (6, .int (zI (i : Int))), (7, .int (zI 1)), (8, .int (zI 0))]) B dX6_costOf_159 (by decide) rfl (fun _ => rfl) (fun v5b hv5b => ?_)
                rw [show v5b = csN (n : Int) t (J 89) (mkM J) (J 90) (J 77 4) room (i + 1) from (by rw [hv5b]; show _ = csN (n : Int) t (J 89) (mkM J) (J 90) (J 77 4) room i + (if trn (n : Int) t i then J 90 (mkM J i).toNat else 0) + (if 0 ≤ airN (n : Int) t (J 89) (J 77 4) (i + 1) ∧ airN (n : Int) t (J 89) (J 77 4) (i + 1) ≤ room then 0 else 1000); first | rw [if_pos c148] | rw [if_neg c148])]
                refine z_iinc (fun v9 => [(0, .ref (gx_ad G 76)), (1, .int (zI t)), (2, .int (zI room)), (3, .int (zI (n : Int))), (4, .int (zI (airN (n : Int) t (J 89) (J 77 4) (i + 1)))), (5, .int (zI (csN (n : Int) t (J 89) (mkM J) (J 90) (J 77 4) room (i + 1)))), (6, .int (zI v9)), (7, .int (zI 1)), (8, .int (zI 0))]) B dX6_costOf_161 rfl (by decide) rfl (fun _ => rfl) (fun v6 hv6 => ?_)
                rw [show v6 = ((i + 1 : Nat) : Int) from (by omega)]
                refine gx_goto (tgt := 21) B dX6_costOf_164 (by decide) ?_
                refine gx_sub [0, 1, 2, 3, 4, 5, 6] rfl ?_
                exact ih (by omega)
              · rw [bz_n0] at c148
                refine z_iconst B dX6_costOf_151 ?_
                refine gx_goto (tgt := 158) B dX6_costOf_152 (by decide) ?_
                refine z_iadd B dX6_costOf_158 ?_
                refine z_istore (fun v9 => [(0, .ref (gx_ad G 76)), (1, .int (zI t)), (2, .int (zI room)), (3, .int (zI (n : Int))), (4, .int (zI (airN (n : Int) t (J 89) (J 77 4) (i + 1)))), (5, .int (zI v9)), (6, .int (zI (i : Int))), (7, .int (zI 1)), (8, .int (zI 0))]) B dX6_costOf_159 (by decide) rfl (fun _ => rfl) (fun v5b hv5b => ?_)
                rw [show v5b = csN (n : Int) t (J 89) (mkM J) (J 90) (J 77 4) room (i + 1) from (by rw [hv5b]; show _ = csN (n : Int) t (J 89) (mkM J) (J 90) (J 77 4) room i + (if trn (n : Int) t i then J 90 (mkM J i).toNat else 0) + (if 0 ≤ airN (n : Int) t (J 89) (J 77 4) (i + 1) ∧ airN (n : Int) t (J 89) (J 77 4) (i + 1) ≤ room then 0 else 1000); first | rw [if_pos c148] | rw [if_neg c148])]
                refine z_iinc (fun v9 => [(0, .ref (gx_ad G 76)), (1, .int (zI t)), (2, .int (zI room)), (3, .int (zI (n : Int))), (4, .int (zI (airN (n : Int) t (J 89) (J 77 4) (i + 1)))), (5, .int (zI (csN (n : Int) t (J 89) (mkM J) (J 90) (J 77 4) room (i + 1)))), (6, .int (zI v9)), (7, .int (zI 1)), (8, .int (zI 0))]) B dX6_costOf_161 rfl (by decide) rfl (fun _ => rfl) (fun v6 hv6 => ?_)
                rw [show v6 = ((i + 1 : Nat) : Int) from (by omega)]
                refine gx_goto (tgt := 21) B dX6_costOf_164 (by decide) ?_
                refine gx_sub [0, 1, 2, 3, 4, 5, 6] rfl ?_
                exact ih (by omega)
            · exact absurd c113_18 (by decide)
        · have htr : trn (n : Int) t i := ⟨by omega, fun q => c71 (by rw [gz_prev] at q; exact q.symm)⟩
          refine z_iconst B dX6_costOf_74 ?_
          refine gx_goto (tgt := 79) B dX6_costOf_75 (by decide) ?_
          refine z_istore (fun v9 => [(0, .ref (gx_ad G 76)), (1, .int (zI t)), (2, .int (zI room)), (3, .int (zI (n : Int))), (4, .int (zI (airN (n : Int) t (J 89) (J 77 4) i))), (5, .int (zI (csN (n : Int) t (J 89) (mkM J) (J 90) (J 77 4) room i))), (6, .int (zI (i : Int))), (7, .int (zI 1)), (8, .int (zI v9))]) B dX6_costOf_79 (by decide) rfl (fun _ => rfl) (fun v9 hv9 => ?_)
          rw [hv9]
          refine gx_iload B dX6_costOf_81 rfl ?_
          refine gx_iload B dX6_costOf_83 rfl ?_
          refine z_if_eq (tgt := 99) B dX6_costOf_85 ⟨by omega, by omega⟩ (by decide) (fun c85_21 => ?_) (fun c85_21 => ?_)
          · exact absurd c85_21 (by decide)
          · refine gx_aload_n B dX6_costOf_88 rfl rfl ?_
            refine gx_getr (t := 89) B fl_X6_46 rfl (by decide) rfl dX6_costOf_89 ?_
            refine gx_iload B dX6_costOf_92 rfl ?_
            refine z_iald i B rfl (by decide) rfl (show i < 8 by omega) (by decide) dX6_costOf_94 ?_
            refine z_ineg B dX6_costOf_95 ?_
            refine gx_goto (tgt := 106) B dX6_costOf_96 (by decide) ?_
            refine z_iadd B dX6_costOf_106 ?_
            refine z_istore (fun v9 => [(0, .ref (gx_ad G 76)), (1, .int (zI t)), (2, .int (zI room)), (3, .int (zI (n : Int))), (4, .int (zI v9)), (5, .int (zI (csN (n : Int) t (J 89) (mkM J) (J 90) (J 77 4) room i))), (6, .int (zI (i : Int))), (7, .int (zI 1)), (8, .int (zI 1))]) B dX6_costOf_107 (by decide) rfl (fun _ => rfl) (fun v4 hv4 => ?_)
            rw [show v4 = airN (n : Int) t (J 89) (J 77 4) (i + 1) from (by rw [hv4]; show _ = airN (n : Int) t (J 89) (J 77 4) i + mvZ (n : Int) t (J 89) i; unfold mvZ; first | rw [if_pos hg0] | rw [if_neg hg0])]
            refine gx_iload B dX6_costOf_109 rfl ?_
            refine gx_iload B dX6_costOf_111 rfl ?_
            refine z_if_eq (tgt := 135) B dX6_costOf_113 ⟨by omega, by omega⟩ (by decide) (fun c113_22 => ?_) (fun c113_22 => ?_)
            · exact absurd c113_22 (by decide)
            · refine gx_aload_n B dX6_costOf_116 rfl rfl ?_
              refine gx_getr (t := 90) B fl_X6_49 rfl (by decide) rfl dX6_costOf_117 ?_
              refine gx_aload_n B dX6_costOf_120 rfl rfl ?_
              refine gx_getr (t := 78) B fl_X6_13 rfl (by decide) rfl dX6_costOf_121 ?_
              refine z_iconst B dX6_costOf_124 ?_
              refine gx_iload B dX6_costOf_125 rfl ?_
              refine z_imul B dX6_costOf_127 ?_
              refine z_iconst B dX6_costOf_128 ?_
              refine z_iadd B dX6_costOf_129 ?_
              refine z_iald (4 * i + 3) B rfl (by decide) (by omega) (show 4 * i + 3 < 32 by omega) (by decide) dX6_costOf_130 ?_
              refine z_iald ((mkM J i).toNat) B rfl (by decide) (by show J 78 (4 * i + 3) = _; omega) (by omega) (by decide) dX6_costOf_131 ?_
              refine gx_goto (tgt := 136) B dX6_costOf_132 (by decide) ?_
              refine z_iadd B dX6_costOf_136 ?_
              refine z_istore (fun v9 => [(0, .ref (gx_ad G 76)), (1, .int (zI t)), (2, .int (zI room)), (3, .int (zI (n : Int))), (4, .int (zI (airN (n : Int) t (J 89) (J 77 4) (i + 1)))), (5, .int (zI v9)), (6, .int (zI (i : Int))), (7, .int (zI 1)), (8, .int (zI 1))]) B dX6_costOf_137 (by decide) rfl (fun _ => rfl) (fun v5 hv5 => ?_)
              rw [show v5 = csN (n : Int) t (J 89) (mkM J) (J 90) (J 77 4) room i + (if trn (n : Int) t i then J 90 (mkM J i).toNat else 0) from (by rw [hv5]; first | rw [if_pos htr] | rw [if_neg htr])]
              refine gx_iload B dX6_costOf_139 rfl ?_
              refine gx_iload B dX6_costOf_141 rfl ?_
              refine z_iconst B dX6_costOf_143 ?_
              refine gx_iload_n B dX6_costOf_144 rfl rfl ?_
              refine z_callSi [.int (zI (airN (n : Int) t (J 89) (J 77 4) (i + 1))), .int (zI 0), .int (zI room)] B ls_X6_52 (mX6_in hG J (v := airN (n : Int) t (J 89) (J 77 4) (i + 1)) (a := 0) (b := room) ⟨by omega, by omega⟩ ⟨by omega, by omega⟩ ⟨by omega, by omega⟩) rfl rfl (Nat.le_of_ble_eq_true rfl) (by decide) (by decide) dX6_costOf_145 (fun r24 J23 hJ23 => ?_)
              rw [show r24 = bz (0 ≤ airN (n : Int) t (J 89) (J 77 4) (i + 1) ∧ airN (n : Int) t (J 89) (J 77 4) (i + 1) ≤ room) from hJ23.1, hJ23.2]
              refine z_if_eq (tgt := 155) B dX6_costOf_148 (bzB _) (by decide) (fun c148 => ?_) (fun c148 => ?_)
              · rw [bz_0] at c148
                refine z_sipush B dX6_costOf_155 (by decide) ?_
                refine z_iadd B dX6_costOf_158 ?_
                refine z_istore (fun v9 => [(0, .ref (gx_ad G 76)), (1, .int (zI t)), (2, .int (zI room)), (3, .int (zI (n : Int))), (4, .int (zI (airN (n : Int) t (J 89) (J 77 4) (i + 1)))), (5, .int (zI v9)), (6, .int (zI (i : Int))), (7, .int (zI 1)), (8, .int (zI 1))]) B dX6_costOf_159 (by decide) rfl (fun _ => rfl) (fun v5b hv5b => ?_)
                rw [show v5b = csN (n : Int) t (J 89) (mkM J) (J 90) (J 77 4) room (i + 1) from (by rw [hv5b]; show _ = csN (n : Int) t (J 89) (mkM J) (J 90) (J 77 4) room i + (if trn (n : Int) t i then J 90 (mkM J i).toNat else 0) + (if 0 ≤ airN (n : Int) t (J 89) (J 77 4) (i + 1) ∧ airN (n : Int) t (J 89) (J 77 4) (i + 1) ≤ room then 0 else 1000); first | rw [if_pos c148] | rw [if_neg c148])]
                refine z_iinc (fun v9 => [(0, .ref (gx_ad G 76)), (1, .int (zI t)), (2, .int (zI room)), (3, .int (zI (n : Int))), (4, .int (zI (airN (n : Int) t (J 89) (J 77 4) (i + 1)))), (5, .int (zI (csN (n : Int) t (J 89) (mkM J) (J 90) (J 77 4) room (i + 1)))), (6, .int (zI v9)), (7, .int (zI 1)), (8, .int (zI 1))]) B dX6_costOf_161 rfl (by decide) rfl (fun _ => rfl) (fun v6 hv6 => ?_)
                rw [show v6 = ((i + 1 : Nat) : Int) from (by omega)]
                refine gx_goto (tgt := 21) B dX6_costOf_164 (by decide) ?_
                refine gx_sub [0, 1, 2, 3, 4, 5, 6] rfl ?_
                exact ih (by omega)
              · rw [bz_n0] at c148
                refine z_iconst B dX6_costOf_151 ?_
                refine gx_goto (tgt := 158) B dX6_costOf_152 (by decide) ?_
                refine z_iadd B dX6_costOf_158 ?_
                refine z_istore (fun v9 => [(0, .ref (gx_ad G 76)), (1, .int (zI t)), (2, .int (zI room)), (3, .int (zI (n : Int))), (4, .int (zI (airN (n : Int) t (J 89) (J 77 4) (i + 1)))), (5, .int (zI v9)), (6, .int (zI (i : Int))), (7, .int (zI 1)), (8, .int (zI 1))]) B dX6_costOf_159 (by decide) rfl (fun _ => rfl) (fun v5b hv5b => ?_)
                rw [show v5b = csN (n : Int) t (J 89) (mkM J) (J 90) (J 77 4) room (i + 1) from (by rw [hv5b]; show _ = csN (n : Int) t (J 89) (mkM J) (J 90) (J 77 4) room i + (if trn (n : Int) t i then J 90 (mkM J i).toNat else 0) + (if 0 ≤ airN (n : Int) t (J 89) (J 77 4) (i + 1) ∧ airN (n : Int) t (J 89) (J 77 4) (i + 1) ≤ room then 0 else 1000); first | rw [if_pos c148] | rw [if_neg c148])]
                refine z_iinc (fun v9 => [(0, .ref (gx_ad G 76)), (1, .int (zI t)), (2, .int (zI room)), (3, .int (zI (n : Int))), (4, .int (zI (airN (n : Int) t (J 89) (J 77 4) (i + 1)))), (5, .int (zI (csN (n : Int) t (J 89) (mkM J) (J 90) (J 77 4) room (i + 1)))), (6, .int (zI v9)), (7, .int (zI 1)), (8, .int (zI 1))]) B dX6_costOf_161 rfl (by decide) rfl (fun _ => rfl) (fun v6 hv6 => ?_)
                rw [show v6 = ((i + 1 : Nat) : Int) from (by omega)]
                refine gx_goto (tgt := 21) B dX6_costOf_164 (by decide) ?_
                refine gx_sub [0, 1, 2, 3, 4, 5, 6] rfl ?_
                exact ih (by omega)

theorem mX6_costOf {l : Launch} {G : gx_G} (hG : gx_OK G 91) (J : zJ) {n : Nat} {t room : Int} (hC : CPre J n) (hr0 : 0 ≤ room) (hr1 : room ≤ 400) : zMi l G yX6_costOf cX6_costOf 9 .int rmX6_costOf [.ref (gx_ad G 76), .int (zI t), .int (zI room)] J (fun r J' => r = csN (n : Int) t (J 89) (mkM J) (J 90) (J 77 4) room n ∧ J' = J) := by
  refine gx_mi hG (by decide) (Nat.le_of_ble_eq_true rfl) (fun X hla B Rt => ?_)
  subst hla
  have B : gx_B G X RX6 cX6_costOf 9 rmX6_costOf 91 := B
  show gx_WG G X 9 (zh J) 0 [(0, .ref (gx_ad G 76)), (1, .int (zI t)), (2, .int (zI room))] []
  refine gx_aload_n B dX6_costOf_0 rfl rfl ?_
  refine gx_getr (t := 77) B fl_X6_7 rfl (by decide) rfl dX6_costOf_1 ?_
  refine z_iconst B dX6_costOf_4 ?_
  refine z_iald 5 B rfl (by decide) rfl (by decide) (by decide) dX6_costOf_5 ?_
  refine z_istore_n (fun v9 => [(0, .ref (gx_ad G 76)), (1, .int (zI t)), (2, .int (zI room)), (3, .int (zI v9))]) B dX6_costOf_6 rfl (by decide) rfl (fun _ => rfl) (fun v3 hv3 => ?_)
  rw [show v3 = (n : Int) from (by rw [hv3]; exact hC.1)]
  refine gx_aload_n B dX6_costOf_7 rfl rfl ?_
  refine gx_getr (t := 77) B fl_X6_7 rfl (by decide) rfl dX6_costOf_8 ?_
  refine z_iconst B dX6_costOf_11 ?_
  refine z_iald 4 B rfl (by decide) rfl (by decide) (by decide) dX6_costOf_12 ?_
  refine z_istore (fun v9 => [(0, .ref (gx_ad G 76)), (1, .int (zI t)), (2, .int (zI room)), (3, .int (zI (n : Int))), (4, .int (zI v9))]) B dX6_costOf_13 (by decide) rfl (fun _ => rfl) (fun v4 hv4 => ?_)
  rw [show v4 = airN (n : Int) t (J 89) (J 77 4) 0 from (by rw [hv4]; rfl)]
  refine z_iconst B dX6_costOf_15 ?_
  refine z_istore (fun v9 => [(0, .ref (gx_ad G 76)), (1, .int (zI t)), (2, .int (zI room)), (3, .int (zI (n : Int))), (4, .int (zI (airN (n : Int) t (J 89) (J 77 4) 0))), (5, .int (zI v9))]) B dX6_costOf_16 (by decide) rfl (fun _ => rfl) (fun v5 hv5 => ?_)
  rw [show v5 = csN (n : Int) t (J 89) (mkM J) (J 90) (J 77 4) room 0 from (by rw [hv5]; rfl)]
  refine z_iconst B dX6_costOf_18 ?_
  refine z_istore (fun v9 => [(0, .ref (gx_ad G 76)), (1, .int (zI t)), (2, .int (zI room)), (3, .int (zI (n : Int))), (4, .int (zI (airN (n : Int) t (J 89) (J 77 4) 0))), (5, .int (zI (csN (n : Int) t (J 89) (mkM J) (J 90) (J 77 4) room 0))), (6, .int (zI v9))]) B dX6_costOf_19 (by decide) rfl (fun _ => rfl) (fun v6 hv6 => ?_)
  rw [show v6 = ((0 : Nat) : Int) from (by omega)]
  exact lpCost hG B hC hr0 hr1 Rt 0 (by omega)


def BestM (f : Nat → Int) (T : Nat) (way price : Int) : Prop := (way = -1 ∧ price = 1000 ∧ ∀ t, t < T → 1000 ≤ f t) ∨ (∃ w : Nat, way = w ∧ w < T ∧ price = f w ∧ f w < 1000 ∧ (∀ t, t < T → f w ≤ f t) ∧ ∀ t, t < w → f w < f t)
theorem BestM.skip {f : Nat → Int} {T : Nat} {way price : Int} (h : BestM f T way price) (hs : price ≤ f T) : BestM f (T + 1) way price := by
  rcases h with ⟨h1, h2, h3⟩ | ⟨w, h1, h2, h3, h4, h5, h6⟩
  · refine Or.inl ⟨h1, h2, fun t ht => ?_⟩
    by_cases e : t = T
    · rw [e]; omega
    · exact h3 t (by omega)
  · refine Or.inr ⟨w, h1, by omega, h3, h4, fun t ht => ?_, h6⟩
    by_cases e : t = T
    · rw [e]; omega
    · exact h5 t (by omega)
theorem BestM.take {f : Nat → Int} {T : Nat} {way price : Int} (h : BestM f T way price) (hf : f T < price) : BestM f (T + 1) (T : Int) (f T) := by
  refine Or.inr ⟨T, rfl, by omega, rfl, ?_, fun t ht => ?_, fun t ht => ?_⟩
  · rcases h with ⟨h1, h2, h3⟩ | ⟨w, h1, h2, h3, h4, h5, h6⟩ <;> omega
  · by_cases e : t = T
    · rw [e]; exact Int.le_refl _
    · rcases h with ⟨h1, h2, h3⟩ | ⟨w, h1, h2, h3, h4, h5, h6⟩
      · have := h3 t (by omega); omega
      · have := h5 t (by omega); omega
  · rcases h with ⟨h1, h2, h3⟩ | ⟨w, h1, h2, h3, h4, h5, h6⟩
    · have := h3 t ht; omega
    · have := h5 t ht; omega
theorem CPre.keep {J J' : zJ} {n : Nat} (h : CPre J n) (e : ∀ x k, ¬ (x = 76 ∧ k = 17) → J' x k = J x k) : CPre J' n := by
  have e1 : J' 89 = J 89 := funext fun k => e _ _ (by omega)
  have e2 : mkM J' = mkM J := funext fun k => e _ _ (by omega)
  have e3 : J' 90 = J 90 := funext fun k => e _ _ (by omega)
  unfold CPre
  rw [e 77 5 (by omega), e 77 4 (by omega), e1, e2, e3]
  exact h
def csM (J : zJ) (n : Nat) (room : Int) (t : Nat) : Int := csN (n : Int) t (J 89) (mkM J) (J 90) (J 77 4) room n
theorem csM_keep {J J' : zJ} {n : Nat} {room : Int} (e : ∀ x k, ¬ (x = 76 ∧ k = 17) → J' x k = J x k) : csM J' n room = csM J n room := by
  funext t
  unfold csM
  rw [show J' 89 = J 89 from funext fun k => e _ _ (by omega), show mkM J' = mkM J from funext fun k => e _ _ (by omega), show J' 90 = J 90 from funext fun k => e _ _ (by omega), e 77 4 (by omega)]
theorem csM_le {J : zJ} {n : Nat} {room : Int} (h : CPre J n) (t : Nat) : 0 ≤ csM J n room t ∧ csM J n room t ≤ 16000 := by
  have := csN_le (n := (n : Int)) (t := t) (u := J 89) (st := J 77 4) (room := room) h.2.2.2.2 (fun b hb => (h.2.2.2.1 b hb).2) n (Nat.le_refl _)
  have h8 := h.2.1
  unfold csM
  omega

theorem lpWay {G : gx_G} {X : gx_X} (hG : gx_OK G 91) (B : gx_B G X RX6 cX6_findWay 5 rmX6_findWay 91) {J0 : zJ} {n : Nat} {room : Int} (hC : CPre J0 n) (hr0 : 0 ≤ room) (hr1 : room ≤ 400) (Rt : gx_Ri G X .int (zpi (fun r J' => BestM (csM J0 n room) (2 ^ n) r (J' 76 17) ∧ ∀ x k, ¬ (x = 76 ∧ k = 17) → J' x k = J0 x k))) : ∀ i : Nat, i ≤ (2 ^ n) → ∀ (J : zJ) (w : Int), BestM (csM J0 n room) i w (J 76 17) → (∀ x k, ¬ (x = 76 ∧ k = 17) → J x k = J0 x k) → gx_WG G X 5 (zh J) 11 [(0, .ref (gx_ad G 76)), (1, .int (zI room)), (2, .int (zI w)), (3, .int (zI (i : Int)))] [] := by
  refine up_ind (fun i hi ih => ?_)
  intro J w hb hfr
  have h8 := hC.2.1
  have hpw := pow8 h8
  have hcs := csM_le (room := room) hC i
  have h17 : 0 ≤ J 76 17 ∧ J 76 17 ≤ 1000 := by
    rcases hb with ⟨q1, q2, q3⟩ | ⟨x, q1, q2, q3, q4, q5⟩
    · omega
    · have := csM_le (room := room) hC x; omega
  refine gx_iload_n B dX6_findWay_11 rfl rfl ?_
  refine z_iconst B dX6_findWay_12 ?_
  refine gx_aload_n B dX6_findWay_13 rfl rfl ?_
  refine gx_getr (t := 77) B fl_X6_7 rfl (by decide) rfl dX6_findWay_14 ?_
  refine z_iconst B dX6_findWay_17 ?_
  refine z_iald 5 B rfl (by decide) rfl (by decide) (by decide) dX6_findWay_18 ?_
  refine z_ishl B dX6_findWay_19 ?_
  rw [show zshl 1 (J 77 5) = ((2 ^ n : Nat) : Int) from (by rw [hfr 77 5 (by omega), hC.1]; exact zshl1 h8)]
  refine z_icmp_ge (tgt := 54) B dX6_findWay_20 ⟨by omega, by omega⟩ ⟨by omega, by omega⟩ (by decide) (fun c20 => ?_) (fun c20 => ?_)
  · refine gx_iload_n B dX6_findWay_54 rfl rfl ?_
    refine z_ireti B Rt dX6_findWay_55 ?_
    obtain rfl : i = 2 ^ n := by omega
    exact ⟨hb, hfr⟩
  · refine gx_aload_n B dX6_findWay_23 rfl rfl ?_
    refine gx_iload_n B dX6_findWay_24 rfl rfl ?_
    refine gx_iload_n B dX6_findWay_25 rfl rfl ?_
    refine z_callVi [.int (zI (i : Int)), .int (zI room)] B lv_X6_139 (by have h9 := mX6_costOf (l := gx_la X) hG J (n := n) (t := (i : Int)) (room := room) (hC.keep hfr) hr0 hr1; rw [show csN (n : Int) (i : Int) (J 89) (mkM J) (J 90) (J 77 4) room n = csM J0 n room i from congrFun (csM_keep (n := n) (room := room) hfr) i] at h9; exact h9) rfl (by decide) rfl rfl (Nat.le_of_ble_eq_true rfl) (by decide) (by decide) dX6_findWay_26 (fun r2 J1 hJ1 => ?_)
    rw [show r2 = csM J0 n room i from hJ1.1, hJ1.2]
    refine z_istore (fun v9 => [(0, .ref (gx_ad G 76)), (1, .int (zI room)), (2, .int (zI w)), (3, .int (zI (i : Int))), (4, .int (zI v9))]) B dX6_findWay_29 (by decide) rfl (fun _ => rfl) (fun v9 hv9 => ?_)
    rw [hv9]
    refine gx_iload B dX6_findWay_31 rfl ?_
    refine gx_aload_n B dX6_findWay_33 rfl rfl ?_
    refine z_geti B fl_X6_136 rfl (by decide) rfl dX6_findWay_34 ?_
    refine z_icmp_ge (tgt := 48) B dX6_findWay_37 ⟨by omega, by omega⟩ ⟨by omega, by omega⟩ (by decide) (fun c37 => ?_) (fun c37 => ?_)
    · refine z_iinc (fun v9 => [(0, .ref (gx_ad G 76)), (1, .int (zI room)), (2, .int (zI w)), (3, .int (zI v9)), (4, .int (zI (csM J0 n room i)))]) B dX6_findWay_48 rfl (by decide) rfl (fun _ => rfl) (fun v3 hv3 => ?_)
      rw [show v3 = ((i + 1 : Nat) : Int) from (by omega)]
      refine gx_goto (tgt := 11) B dX6_findWay_51 (by decide) ?_
      refine gx_sub [0, 1, 2, 3] rfl ?_
      exact ih (by omega) J w (hb.skip c37) hfr
    · refine gx_aload_n B dX6_findWay_40 rfl rfl ?_
      refine gx_iload B dX6_findWay_41 rfl ?_
      refine z_puti B fw_X6_136 rfl (by decide) rfl dX6_findWay_43 (fun J1 hJ1 => ?_)
      refine gx_iload_n B dX6_findWay_46 rfl rfl ?_
      refine z_istore_n (fun v9 => [(0, .ref (gx_ad G 76)), (1, .int (zI room)), (2, .int (zI v9)), (3, .int (zI (i : Int))), (4, .int (zI (csM J0 n room i)))]) B dX6_findWay_47 rfl (by decide) rfl (fun _ => rfl) (fun v9 hv9 => ?_)
      rw [hv9]
      refine z_iinc (fun v9 => [(0, .ref (gx_ad G 76)), (1, .int (zI room)), (2, .int (zI (i : Int))), (3, .int (zI v9)), (4, .int (zI (csM J0 n room i)))]) B dX6_findWay_48 rfl (by decide) rfl (fun _ => rfl) (fun v3 hv3 => ?_)
      rw [show v3 = ((i + 1 : Nat) : Int) from (by omega)]
      refine gx_goto (tgt := 11) B dX6_findWay_51 (by decide) ?_
      refine gx_sub [0, 1, 2, 3] rfl ?_
      refine ih (by omega) J1 (i : Int) ?_ (fun x k h => by rw [hJ1, zup_ne h]; exact hfr x k h)
      rw [hJ1, zup_self]
      exact hb.take c37

theorem mX6_findWay {l : Launch} {G : gx_G} (hG : gx_OK G 91) (J : zJ) {n : Nat} {room : Int} (hC : CPre J n) (hr0 : 0 ≤ room) (hr1 : room ≤ 400) : zMi l G yX6_findWay cX6_findWay 5 .int rmX6_findWay [.ref (gx_ad G 76), .int (zI room)] J (fun r J' => BestM (csM J n room) (2 ^ n) r (J' 76 17) ∧ ∀ x k, ¬ (x = 76 ∧ k = 17) → J' x k = J x k) := by
  refine gx_mi hG (by decide) (Nat.le_of_ble_eq_true rfl) (fun X hla B Rt => ?_)
  subst hla
  have B : gx_B G X RX6 cX6_findWay 5 rmX6_findWay 91 := B
  show gx_WG G X 5 (zh J) 0 [(0, .ref (gx_ad G 76)), (1, .int (zI room))] []
  refine z_iconst B dX6_findWay_0 ?_
  refine z_istore_n (fun v9 => [(0, .ref (gx_ad G 76)), (1, .int (zI room)), (2, .int (zI v9))]) B dX6_findWay_1 rfl (by decide) rfl (fun _ => rfl) (fun v9 hv9 => ?_)
  rw [hv9]
  refine gx_aload_n B dX6_findWay_2 rfl rfl ?_
  refine z_sipush B dX6_findWay_3 (by decide) ?_
  refine z_puti B fw_X6_136 rfl (by decide) rfl dX6_findWay_6 (fun J1 hJ1 => ?_)
  refine z_iconst B dX6_findWay_9 ?_
  refine z_istore_n (fun v9 => [(0, .ref (gx_ad G 76)), (1, .int (zI room)), (2, .int (zI (-1))), (3, .int (zI v9))]) B dX6_findWay_10 rfl (by decide) rfl (fun _ => rfl) (fun v3 hv3 => ?_)
  rw [show v3 = ((0 : Nat) : Int) from (by omega)]
  exact lpWay hG B hC hr0 hr1 Rt 0 (Nat.zero_le _) J1 (-1) (Or.inl ⟨rfl, by rw [hJ1, zup_self], fun t ht => by omega⟩) (fun x k h => by rw [hJ1, zup_ne h])

