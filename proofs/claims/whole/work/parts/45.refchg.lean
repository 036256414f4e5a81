
theorem btA_le {J0 J : zJ} {n b i : Nat} (h : HFound J0 J n) (hb : b < n) : -1 ≤ btA J b i ∧ btA J b i ≤ 127 := by
  have hg := (h.1 b hb).1
  have hbd := hg.bnd
  have hh := h.2.1 b hb
  obtain ⟨⟨r1, r2, r3⟩, h1, h2, h3, h4, h5, h6⟩ := hg.s
  unfold btA
  split
  · rename_i hi
    rw [if_pos (by omega)] at hh
    have h7 := h6 (J 87 b).toNat (by omega) i (by omega)
    have h8 := dg_B (m := ((gMr (J0 78 (4 * b)) (J0 77 0) (J0 77 1) (J0 78 (4 * b + 1))).1 % 16 + gMc (J0 78 (4 * b)) (J0 77 0) (J0 77 1) (J0 78 (4 * b + 1))).toNat - 1 - i) (okL_at h1.1 (k := (J 87 b).toNat) (by omega)).1
    rw [← h7] at h8
    omega
  · omega
def lkB (f g : Nat → Int) : Nat → Int
  | 0 => 1
  | i + 1 => if lkB f g i ≠ 0 ∧ f i = g i then 1 else 0
theorem lkB01 (f g : Nat → Int) : ∀ i, lkB f g i = 0 ∨ lkB f g i = 1
  | 0 => Or.inr rfl
  | i + 1 => by unfold lkB; split <;> simp
theorem lkB_iff (f g : Nat → Int) : ∀ i, lkB f g i ≠ 0 ↔ ∀ j, j < i → f j = g j
  | 0 => ⟨fun _ j hj => absurd hj (Nat.not_lt_zero j), fun _ => by show (1 : Int) ≠ 0; decide⟩
  | i + 1 => by
    unfold lkB
    have ih := lkB_iff f g i
    split
    · rename_i h
      refine ⟨fun _ j hj => ?_, fun _ => by decide⟩
      by_cases e : j = i
      · rw [e]; exact h.2
      · exact ih.mp h.1 j (by omega)
    · rename_i h
      refine ⟨fun q => absurd rfl q, fun q => absurd ⟨ih.mpr (fun j hj => q j (by omega)), q i (by omega)⟩ h⟩
theorem lkB_a {f g : Nat → Int} {i : Nat} (h1 : ¬ lkB f g i = 0) (h2 : f i = g i) : lkB f g (i + 1) = 1 := if_pos ⟨h1, h2⟩
theorem lkB_b {f g : Nat → Int} {i : Nat} (h1 : lkB f g i = 0) : lkB f g (i + 1) = 0 := if_neg (fun q => q.1 h1)
theorem lkB_c {f g : Nat → Int} {i : Nat} (h2 : ¬ f i = g i) : lkB f g (i + 1) = 0 := if_neg (fun q => h2 q.2)
theorem lkB_congr {f g f' g' : Nat → Int} : ∀ {i : Nat}, (∀ j, j < i → f j = f' j) → (∀ j, j < i → g j = g' j) → lkB f g i = lkB f' g' i
  | 0, _, _ => rfl
  | i + 1, h, k => by
    unfold lkB
    rw [lkB_congr (fun j hj => h j (by omega)) (fun j hj => k j (by omega)), h i (by omega), k i (by omega)]
def dfB (f g : Nat → Nat → Int) (x : Nat) : Int := if lkB (f x) (g x) 3 = 0 then 1 else 0

theorem lpChA {G : gx_G} {X : gx_X} (hG : gx_OK G 91) (B : gx_B G X RX6 cX6_changed 9 rmX6_changed 91) {n : Nat} {a b : Int} {Jq : zJ} (h5 : Jq 77 5 = (n : Int)) (h8 : n ≤ 8) (hs : ∀ x, x < n → (0 ≤ Jq 82 x ∧ Jq 82 x ≤ 3) ∧ (0 ≤ Jq 87 x ∧ Jq 87 x < 20)) (kk : ∀ J : zJ, (∀ x k, x ≠ 88 → J x k = Jq x k) → (∀ q, q < 3 * n → J 88 q = btA Jq (q / 3) (q % 3)) → gx_WG G X 9 (zh J) 50 [(0, .ref (gx_ad G 76)), (1, .int (zI a)), (2, .int (zI b))] []) : ∀ k : Nat, k ≤ (3 * n) → ∀ (J : zJ), (∀ x k, x ≠ 88 → J x k = Jq x k) → (∀ q, q < k → J 88 q = btA Jq (q / 3) (q % 3)) → gx_WG G X 9 (zh J) 16 [(0, .ref (gx_ad G 76)), (1, .int (zI a)), (2, .int (zI b)), (3, .int (zI (k : Int)))] [] := by
  refine up_ind (fun k hi ih => ?_)
  intro J hfr hq
  have e5 : J 77 5 = (n : Int) := by rw [hfr _ _ (by omega)]; exact h5
  refine gx_iload_n B dX6_changed_16 rfl rfl ?_
  refine z_iconst B dX6_changed_17 ?_
  refine gx_aload_n B dX6_changed_18 rfl rfl ?_
  refine gx_getr (t := 77) B fl_X6_7 rfl (by decide) rfl dX6_changed_19 ?_
  refine z_iconst B dX6_changed_22 ?_
  refine z_iald 5 B rfl (by decide) rfl (by decide) (by decide) dX6_changed_23 ?_
  refine z_imul B dX6_changed_24 ?_
  refine z_icmp_ge (tgt := 50) B dX6_changed_25 ⟨by omega, by omega⟩ ⟨by omega, by omega⟩ (by decide) (fun c25 => ?_) (fun c25 => ?_)
  · refine gx_sub [0, 1, 2] rfl ?_
    obtain rfl : k = 3 * n := by omega
    exact kk J hfr hq
  · refine gx_aload_n B dX6_changed_28 rfl rfl ?_
    refine gx_getr (t := 88) B fl_X6_43 rfl (by decide) rfl dX6_changed_29 ?_
    refine gx_iload_n B dX6_changed_32 rfl rfl ?_
    refine gx_aload_n B dX6_changed_33 rfl rfl ?_
    refine gx_iload_n B dX6_changed_34 rfl rfl ?_
    refine z_iconst B dX6_changed_35 ?_
    refine z_idiv B dX6_changed_36 (by decide) ?_
    rw [show zdiv (k : Int) 3 = ((k / 3 : Nat) : Int) from (by rw [zdiv_nn (by omega) (by omega) (by omega) (by omega)]; omega)]
    refine gx_iload_n B dX6_changed_37 rfl rfl ?_
    refine z_iconst B dX6_changed_38 ?_
    refine z_irem B dX6_changed_39 (by decide) ?_
    rw [show zrem (k : Int) 3 = ((k % 3 : Nat) : Int) from (by rw [zrem_nn (by omega) (by omega) (by omega) (by omega)]; omega)]
    refine z_callVi [.int (zI ((k / 3 : Nat) : Int)), .int (zI ((k % 3 : Nat) : Int))] B lv_X6_130 (mX6_buttonAt hG J (b := (k / 3)) (i := (k % 3)) (by omega) (by omega) (by rw [hfr _ _ (by omega), hfr _ _ (by omega)]; exact hs _ (by omega))) rfl (by decide) rfl rfl (Nat.le_of_ble_eq_true rfl) (by decide) (by decide) dX6_changed_40 (fun r2 J1 hJ1 => ?_)
    rw [show r2 = btA J (k / 3) (k % 3) from hJ1.1, hJ1.2]
    refine z_iast k B rfl (by decide) rfl (show k < 24 by omega) (by decide) dX6_changed_43 (fun J1 hJ1 => ?_)
    refine z_iinc (fun v9 => [(0, .ref (gx_ad G 76)), (1, .int (zI a)), (2, .int (zI b)), (3, .int (zI v9))]) B dX6_changed_44 rfl (by decide) rfl (fun _ => rfl) (fun v3 hv3 => ?_)
    rw [show v3 = ((k + 1 : Nat) : Int) from (by omega)]
    refine gx_goto (tgt := 16) B dX6_changed_47 (by decide) ?_
    refine ih (by omega) J1 (fun x q h => by rw [hJ1, zup_ne (by omega)]; exact hfr x q h) (fun q hq1 => ?_)
    by_cases e : q = k
    · subst e; rw [hJ1, zup_self]; unfold btA; rw [hfr _ _ (by omega), hfr _ _ (by omega), hfr _ _ (by omega)]
    · rw [hJ1, zup_ne (by omega)]; exact hq q (by omega)

theorem lpChI {G : gx_G} {X : gx_X} (hG : gx_OK G 91) (B : gx_B G X RX6 cX6_changed 9 rmX6_changed 91) {n x : Nat} {a b wb wr cn : Int} {J : zJ} (h8 : n ≤ 8) (hx : x < n) (hs : (0 ≤ J 82 x ∧ J 82 x ≤ 3) ∧ (0 ≤ J 87 x ∧ J 87 x < 20)) (h1 : ∀ j, j < 3 → zB (J 88 (3 * x + j))) (h2 : ∀ j, j < 3 → zB (btA J x j)) (kk : gx_WG G X 9 (zh J) 153 [(0, .ref (gx_ad G 76)), (1, .int (zI a)), (2, .int (zI b)), (3, .int (zI wb)), (4, .int (zI wr)), (5, .int (zI cn)), (6, .int (zI (x : Int))), (7, .int (zI (lkB (fun j => J 88 (3 * x + j)) (btA J x) 3)))] []) : ∀ i : Nat, i ≤ 3 → gx_WG G X 9 (zh J) 106 [(0, .ref (gx_ad G 76)), (1, .int (zI a)), (2, .int (zI b)), (3, .int (zI wb)), (4, .int (zI wr)), (5, .int (zI cn)), (6, .int (zI (x : Int))), (7, .int (zI (lkB (fun j => J 88 (3 * x + j)) (btA J x) i))), (8, .int (zI (i : Int)))] [] := by
  refine up_ind (fun i hi ih => ?_)
  have h01 := lkB01 (fun j => J 88 (3 * x + j)) (btA J x) i
  refine gx_iload B dX6_changed_106 rfl ?_
  refine z_iconst B dX6_changed_108 ?_
  refine z_icmp_ge (tgt := 153) B dX6_changed_109 ⟨by omega, by omega⟩ ⟨by omega, by omega⟩ (by decide) (fun c109 => ?_) (fun c109 => ?_)
  · refine gx_sub [0, 1, 2, 3, 4, 5, 6, 7] rfl ?_
    obtain rfl : i = 3 := by omega
    exact kk
  · refine gx_iload B dX6_changed_112 rfl ?_
    refine z_if_eq (tgt := 144) B dX6_changed_114 ⟨by omega, by omega⟩ (by decide) (fun c114 => ?_) (fun c114 => ?_)
    · refine z_iconst B dX6_changed_144 ?_
      refine z_istore (fun v9 => [(0, .ref (gx_ad G 76)), (1, .int (zI a)), (2, .int (zI b)), (3, .int (zI wb)), (4, .int (zI wr)), (5, .int (zI cn)), (6, .int (zI (x : Int))), (7, .int (zI v9)), (8, .int (zI (i : Int)))]) B dX6_changed_145 (by decide) rfl (fun _ => rfl) (fun v7 hv7 => ?_)
      rw [show v7 = lkB (fun j => J 88 (3 * x + j)) (btA J x) (i + 1) from (by rw [hv7]; first | exact (lkB_a c114 c137).symm | exact (lkB_b c114).symm | exact (lkB_c c137).symm)]
      refine z_iinc (fun v9 => [(0, .ref (gx_ad G 76)), (1, .int (zI a)), (2, .int (zI b)), (3, .int (zI wb)), (4, .int (zI wr)), (5, .int (zI cn)), (6, .int (zI (x : Int))), (7, .int (zI (lkB (fun j => J 88 (3 * x + j)) (btA J x) (i + 1)))), (8, .int (zI v9))]) B dX6_changed_147 rfl (by decide) rfl (fun _ => rfl) (fun v8 hv8 => ?_)
      rw [show v8 = ((i + 1 : Nat) : Int) from (by omega)]
      refine gx_goto (tgt := 106) B dX6_changed_150 (by decide) ?_
      exact ih (by omega)
    · refine gx_aload_n B dX6_changed_117 rfl rfl ?_
      refine gx_getr (t := 88) B fl_X6_43 rfl (by decide) rfl dX6_changed_118 ?_
      refine z_iconst B dX6_changed_121 ?_
      refine gx_iload B dX6_changed_122 rfl ?_
      refine z_imul B dX6_changed_124 ?_
      refine gx_iload B dX6_changed_125 rfl ?_
      refine z_iadd B dX6_changed_127 ?_
      refine z_iald (3 * x + i) B rfl (by decide) (by omega) (show 3 * x + i < 24 by omega) (by decide) dX6_changed_128 ?_
      refine gx_aload_n B dX6_changed_129 rfl rfl ?_
      refine gx_iload B dX6_changed_130 rfl ?_
      refine gx_iload B dX6_changed_132 rfl ?_
      refine z_callVi [.int (zI (x : Int)), .int (zI (i : Int))] B lv_X6_130 (mX6_buttonAt hG J (b := x) (i := i) (by omega) (by omega) hs) rfl (by decide) rfl rfl (Nat.le_of_ble_eq_true rfl) (by decide) (by decide) dX6_changed_134 (fun r2 J1 hJ1 => ?_)
      rw [show r2 = btA J x i from hJ1.1, hJ1.2]
      refine z_icmp_ne (tgt := 144) B dX6_changed_137 (h1 i (by omega)) (h2 i (by omega)) (by decide) (fun c137 => ?_) (fun c137 => ?_)
      · refine z_iconst B dX6_changed_144 ?_
        refine z_istore (fun v9 => [(0, .ref (gx_ad G 76)), (1, .int (zI a)), (2, .int (zI b)), (3, .int (zI wb)), (4, .int (zI wr)), (5, .int (zI cn)), (6, .int (zI (x : Int))), (7, .int (zI v9)), (8, .int (zI (i : Int)))]) B dX6_changed_145 (by decide) rfl (fun _ => rfl) (fun v7 hv7 => ?_)
        rw [show v7 = lkB (fun j => J 88 (3 * x + j)) (btA J x) (i + 1) from (by rw [hv7]; first | exact (lkB_a c114 c137).symm | exact (lkB_b c114).symm | exact (lkB_c c137).symm)]
        refine z_iinc (fun v9 => [(0, .ref (gx_ad G 76)), (1, .int (zI a)), (2, .int (zI b)), (3, .int (zI wb)), (4, .int (zI wr)), (5, .int (zI cn)), (6, .int (zI (x : Int))), (7, .int (zI (lkB (fun j => J 88 (3 * x + j)) (btA J x) (i + 1)))), (8, .int (zI v9))]) B dX6_changed_147 rfl (by decide) rfl (fun _ => rfl) (fun v8 hv8 => ?_)
        rw [show v8 = ((i + 1 : Nat) : Int) from (by omega)]
        refine gx_goto (tgt := 106) B dX6_changed_150 (by decide) ?_
        exact ih (by omega)
      · refine z_iconst B dX6_changed_140 ?_
        refine gx_goto (tgt := 145) B dX6_changed_141 (by decide) ?_
        refine z_istore (fun v9 => [(0, .ref (gx_ad G 76)), (1, .int (zI a)), (2, .int (zI b)), (3, .int (zI wb)), (4, .int (zI wr)), (5, .int (zI cn)), (6, .int (zI (x : Int))), (7, .int (zI v9)), (8, .int (zI (i : Int)))]) B dX6_changed_145 (by decide) rfl (fun _ => rfl) (fun v7 hv7 => ?_)
        rw [show v7 = lkB (fun j => J 88 (3 * x + j)) (btA J x) (i + 1) from (by rw [hv7]; first | exact (lkB_a c114 c137).symm | exact (lkB_b c114).symm | exact (lkB_c c137).symm)]
        refine z_iinc (fun v9 => [(0, .ref (gx_ad G 76)), (1, .int (zI a)), (2, .int (zI b)), (3, .int (zI wb)), (4, .int (zI wr)), (5, .int (zI cn)), (6, .int (zI (x : Int))), (7, .int (zI (lkB (fun j => J 88 (3 * x + j)) (btA J x) (i + 1)))), (8, .int (zI v9))]) B dX6_changed_147 rfl (by decide) rfl (fun _ => rfl) (fun v8 hv8 => ?_)
        rw [show v8 = ((i + 1 : Nat) : Int) from (by omega)]
        refine gx_goto (tgt := 106) B dX6_changed_150 (by decide) ?_
        exact ih (by omega)

theorem lpChO {G : gx_G} {X : gx_X} (hG : gx_OK G 91) (B : gx_B G X RX6 cX6_changed 9 rmX6_changed 91) {n : Nat} {a b wb wr : Int} {J : zJ} (h5 : J 77 5 = (n : Int)) (h8 : n ≤ 8) (hs : ∀ x, x < n → (0 ≤ J 82 x ∧ J 82 x ≤ 3) ∧ (0 ≤ J 87 x ∧ J 87 x < 20)) (h1 : ∀ x, x < n → ∀ j, j < 3 → zB (J 88 (3 * x + j))) (h2 : ∀ x, x < n → ∀ j, j < 3 → zB (btA J x j)) {post : Int → zJ → Prop} (Rt : gx_Ri G X .int (zpi post)) (hp : post (sumN (dfB (fun x j => J 88 (3 * x + j)) (btA J)) n) (zup (zup J 77 0 wb) 77 1 wr)) : ∀ x : Nat, x ≤ n → gx_WG G X 9 (zh J) 89 [(0, .ref (gx_ad G 76)), (1, .int (zI a)), (2, .int (zI b)), (3, .int (zI wb)), (4, .int (zI wr)), (5, .int (zI (sumN (dfB (fun x j => J 88 (3 * x + j)) (btA J)) x))), (6, .int (zI (x : Int)))] [] := by
  refine up_ind (fun x hi ih => ?_)
  have h01 := lkB01 (fun j => J 88 (3 * x + j)) (btA J x) 3
  refine gx_iload B dX6_changed_89 rfl ?_
  refine gx_aload_n B dX6_changed_91 rfl rfl ?_
  refine gx_getr (t := 77) B fl_X6_7 rfl (by decide) rfl dX6_changed_92 ?_
  refine z_iconst B dX6_changed_95 ?_
  refine z_iald 5 B rfl (by decide) rfl (by decide) (by decide) dX6_changed_96 ?_
  refine z_icmp_ge (tgt := 174) B dX6_changed_97 ⟨by omega, by omega⟩ ⟨by omega, by omega⟩ (by decide) (fun c97 => ?_) (fun c97 => ?_)
  · refine gx_aload_n B dX6_changed_174 rfl rfl ?_
    refine gx_getr (t := 77) B fl_X6_7 rfl (by decide) rfl dX6_changed_175 ?_
    refine z_iconst B dX6_changed_178 ?_
    refine gx_iload_n B dX6_changed_179 rfl rfl ?_
    refine z_iast 0 B rfl (by decide) rfl (by decide) (by decide) dX6_changed_180 (fun J1 hJ1 => ?_)
    refine gx_aload_n B dX6_changed_181 rfl rfl ?_
    refine gx_getr (t := 77) B fl_X6_7 rfl (by decide) rfl dX6_changed_182 ?_
    refine z_iconst B dX6_changed_185 ?_
    refine gx_iload B dX6_changed_186 rfl ?_
    refine z_iast 1 B rfl (by decide) rfl (by decide) (by decide) dX6_changed_188 (fun J2 hJ2 => ?_)
    refine gx_iload B dX6_changed_189 rfl ?_
    refine z_ireti B Rt dX6_changed_191 ?_
    obtain rfl : x = n := by omega
    rw [hJ2, hJ1]
    exact hp
  · refine z_iconst B dX6_changed_100 ?_
    refine z_istore (fun v9 => [(0, .ref (gx_ad G 76)), (1, .int (zI a)), (2, .int (zI b)), (3, .int (zI wb)), (4, .int (zI wr)), (5, .int (zI (sumN (dfB (fun x j => J 88 (3 * x + j)) (btA J)) x))), (6, .int (zI (x : Int))), (7, .int (zI v9))]) B dX6_changed_101 (by decide) rfl (fun _ => rfl) (fun v7 hv7 => ?_)
    rw [show v7 = lkB (fun j => J 88 (3 * x + j)) (btA J x) 0 from (by rw [hv7]; rfl)]
    refine z_iconst B dX6_changed_103 ?_
    refine z_istore (fun v9 => [(0, .ref (gx_ad G 76)), (1, .int (zI a)), (2, .int (zI b)), (3, .int (zI wb)), (4, .int (zI wr)), (5, .int (zI (sumN (dfB (fun x j => J 88 (3 * x + j)) (btA J)) x))), (6, .int (zI (x : Int))), (7, .int (zI (lkB (fun j => J 88 (3 * x + j)) (btA J x) 0))), (8, .int (zI v9))]) B dX6_changed_104 (by decide) rfl (fun _ => rfl) (fun v8 hv8 => ?_)
    rw [show v8 = ((0 : Nat) : Int) from (by omega)]
    refine lpChI hG B (n := n) (x := x) h8 (by omega) (hs x (by omega)) (h1 x (by omega)) (h2 x (by omega)) ?_ 0 (by omega)
    refine gx_iload B dX6_changed_153 rfl ?_
    refine gx_iload B dX6_changed_155 rfl ?_
    refine z_if_eq (tgt := 164) B dX6_changed_157 ⟨by omega, by omega⟩ (by decide) (fun c157 => ?_) (fun c157 => ?_)
    · refine z_iconst B dX6_changed_164 ?_
      refine z_iadd B dX6_changed_165 ?_
      refine z_istore (fun v9 => [(0, .ref (gx_ad G 76)), (1, .int (zI a)), (2, .int (zI b)), (3, .int (zI wb)), (4, .int (zI wr)), (5, .int (zI v9)), (6, .int (zI (x : Int))), (7, .int (zI (lkB (fun j => J 88 (3 * x + j)) (btA J x) 3)))]) B dX6_changed_166 (by decide) rfl (fun _ => rfl) (fun v5 hv5 => ?_)
      rw [show v5 = sumN (dfB (fun x j => J 88 (3 * x + j)) (btA J)) (x + 1) from (by rw [hv5]; show _ = sumN (dfB (fun x j => J 88 (3 * x + j)) (btA J)) x + (if lkB (fun j => J 88 (3 * x + j)) (btA J x) 3 = 0 then (1 : Int) else 0); first | rw [if_pos c157] | rw [if_neg c157])]
      refine z_iinc (fun v9 => [(0, .ref (gx_ad G 76)), (1, .int (zI a)), (2, .int (zI b)), (3, .int (zI wb)), (4, .int (zI wr)), (5, .int (zI (sumN (dfB (fun x j => J 88 (3 * x + j)) (btA J)) (x + 1)))), (6, .int (zI v9)), (7, .int (zI (lkB (fun j => J 88 (3 * x + j)) (btA J x) 3)))]) B dX6_changed_168 rfl (by decide) rfl (fun _ => rfl) (fun v6 hv6 => ?_)
      rw [show v6 = ((x + 1 : Nat) : Int) from (by omega)]
      refine gx_goto (tgt := 89) B dX6_changed_171 (by decide) ?_
      refine gx_sub [0, 1, 2, 3, 4, 5, 6] rfl ?_
      exact ih (by omega)
    · refine z_iconst B dX6_changed_160 ?_
      refine gx_goto (tgt := 165) B dX6_changed_161 (by decide) ?_
      refine z_iadd B dX6_changed_165 ?_
      refine z_istore (fun v9 => [(0, .ref (gx_ad G 76)), (1, .int (zI a)), (2, .int (zI b)), (3, .int (zI wb)), (4, .int (zI wr)), (5, .int (zI v9)), (6, .int (zI (x : Int))), (7, .int (zI (lkB (fun j => J 88 (3 * x + j)) (btA J x) 3)))]) B dX6_changed_166 (by decide) rfl (fun _ => rfl) (fun v5 hv5 => ?_)
      rw [show v5 = sumN (dfB (fun x j => J 88 (3 * x + j)) (btA J)) (x + 1) from (by rw [hv5]; show _ = sumN (dfB (fun x j => J 88 (3 * x + j)) (btA J)) x + (if lkB (fun j => J 88 (3 * x + j)) (btA J x) 3 = 0 then (1 : Int) else 0); first | rw [if_pos c157] | rw [if_neg c157])]
      refine z_iinc (fun v9 => [(0, .ref (gx_ad G 76)), (1, .int (zI a)), (2, .int (zI b)), (3, .int (zI wb)), (4, .int (zI wr)), (5, .int (zI (sumN (dfB (fun x j => J 88 (3 * x + j)) (btA J)) (x + 1)))), (6, .int (zI v9)), (7, .int (zI (lkB (fun j => J 88 (3 * x + j)) (btA J x) 3)))]) B dX6_changed_168 rfl (by decide) rfl (fun _ => rfl) (fun v6 hv6 => ?_)
      rw [show v6 = ((x + 1 : Nat) : Int) from (by omega)]
      refine gx_goto (tgt := 89) B dX6_changed_171 (by decide) ?_
      refine gx_sub [0, 1, 2, 3, 4, 5, 6] rfl ?_
      exact ih (by omega)


theorem HFound.num {J0 J0' J : zJ} {n : Nat} (e0 : J0' 77 0 = J0 77 0) (e1 : J0' 77 1 = J0 77 1) (e : ∀ k, J0' 78 k = J0 78 k) (h : HFound J0 J n) : HFound J0' J n := by
  refine ⟨fun b hb => ⟨?_, (h.1 b hb).2⟩, h.2⟩
  have := (h.1 b hb).1
  unfold MGood at this ⊢
  rw [e0, e1, e, e]; exact this
theorem VM.sys {J : zJ} {n : Nat} {a b : Int} (h : VM J n) (hab : 0 ≤ a ∧ a < 12 ∧ 0 ≤ b ∧ b ≤ 63) : VM (zup (zup J 77 0 a) 77 1 b) n := by
  obtain ⟨v1, v2, v3, v4, v5, h5, v7, v8⟩ := h
  have e : ∀ x k, ¬ (x = 77 ∧ (k = 0 ∨ k = 1)) → (zup (zup J 77 0 a) 77 1 b) x k = J x k := fun x k q => by rw [zup_ne (by omega), zup_ne (by omega)]
  unfold VM
  rw [zup_self, zup_ne (by omega), zup_self]
  rw [e 77 2 (by omega), e 77 3 (by omega), e 77 4 (by omega), e 77 5 (by omega), e 90 0 (by omega), e 90 1 (by omega), e 90 2 (by omega), e 90 3 (by omega)]
  refine ⟨by omega, by omega, v3, v4, v5, h5, fun x hx => ?_, v8⟩
  rw [e _ _ (by omega), e _ _ (by omega), e _ _ (by omega), e _ _ (by omega)]
  exact v7 x hx


theorem VM.eqn {J J' : zJ} {n : Nat} (h : VM J n) (e7 : ∀ k, J' 77 k = J 77 k) (e8 : ∀ k, J' 78 k = J 78 k) (e9 : ∀ k, J' 90 k = J 90 k) : VM J' n := by
  unfold VM
  simp only [e7, e8, e9]
  exact h
theorem zup2_congr {J J' : zJ} {a b : Int} (e : ∀ k, J' 77 k = J 77 k) (k : Nat) : zup (zup J' 77 0 a) 77 1 b 77 k = zup (zup J 77 0 a) 77 1 b 77 k := by
  unfold zup
  simp only [e]

theorem mX6_changed {l : Launch} {G : gx_G} (hG : gx_OK G 91) (J : zJ) {n : Nat} (hM : VM J n) {a b : Int} (ha : zB a) (hb : zB b) : zMi l G yX6_changed cX6_changed 9 .int rmX6_changed [.ref (gx_ad G 76), .int (zI a), .int (zI b)] J (fun r J' => ((0 ≤ a ∧ a < 12 ∧ 0 ≤ b ∧ b ≤ 63) ∧ RFr J J' ∧ ∃ J1 J2, HFound J J1 n ∧ HFound (zup (zup J 77 0 a) 77 1 b) J2 n ∧ r = sumN (dfB (btA J1) (btA J2)) n) ∨ (¬ (0 ≤ a ∧ a < 12 ∧ 0 ≤ b ∧ b ≤ 63) ∧ r = -1 ∧ J' = J)) := by
  refine gx_mi hG (by decide) (Nat.le_of_ble_eq_true rfl) (fun X hla B Rt => ?_)
  subst hla
  have B : gx_B G X RX6 cX6_changed 9 rmX6_changed 91 := B
  show gx_WG G X 9 (zh J) 0 [(0, .ref (gx_ad G 76)), (1, .int (zI a)), (2, .int (zI b))] []
  obtain ⟨v1, v2, v3, v4, v5, ⟨h5, h8⟩, v7, v8⟩ := id hM
  refine gx_iload_n B dX6_changed_0 rfl rfl ?_
  refine gx_iload_n B dX6_changed_1 rfl rfl ?_
  refine z_callSi [.int (zI a), .int (zI b)] B ls_X6_56 (mX6_isSystem hG J ha hb) rfl rfl (Nat.le_of_ble_eq_true rfl) (by decide) (by decide) dX6_changed_2 (fun r2 J1 hJ1 => ?_)
  rw [show r2 = bz (0 ≤ a ∧ a < 12 ∧ 0 ≤ b ∧ b ≤ 63) from hJ1.1, hJ1.2]
  refine z_if_ne (tgt := 10) B dX6_changed_5 (bzB _) (by decide) (fun c5 => ?_) (fun c5 => ?_)
  · rw [bz_n0] at c5
    refine gx_aload_n B dX6_changed_10 rfl rfl ?_
    refine z_callVv [] B lv_X6_124 (mX6_findHand hG J hM) rfl (by decide) rfl rfl (Nat.le_of_ble_eq_true rfl) (by decide) (by decide) dX6_changed_11 (fun J1 hJ1 => ?_)
    refine z_iconst B dX6_changed_14 ?_
    refine z_istore_n (fun v9 => [(0, .ref (gx_ad G 76)), (1, .int (zI a)), (2, .int (zI b)), (3, .int (zI v9))]) B dX6_changed_15 rfl (by decide) rfl (fun _ => rfl) (fun v3 hv3 => ?_)
    rw [show v3 = ((0 : Nat) : Int) from (by omega)]
    refine lpChA hG B (n := n) (Jq := J1) (by rw [hJ1.2 _ _ (by omega) (by omega)]; exact h5) h8 (fun x hx => hJ1.1.bn hx) (fun Ja hfa hqa => ?_) 0 (by omega) J1 (fun _ _ _ => rfl) (fun q hq => by omega)
    have ha7 : ∀ k, Ja 77 k = J 77 k := fun k => by rw [hfa _ _ (by omega), hJ1.2 _ _ (by omega) (by omega)]
    refine gx_aload_n B dX6_changed_50 rfl rfl ?_
    refine gx_getr (t := 77) B fl_X6_7 rfl (by decide) rfl dX6_changed_51 ?_
    refine z_iconst B dX6_changed_54 ?_
    refine z_iald 0 B rfl (by decide) rfl (by decide) (by decide) dX6_changed_55 ?_
    refine z_istore_n (fun v9 => [(0, .ref (gx_ad G 76)), (1, .int (zI a)), (2, .int (zI b)), (3, .int (zI v9))]) B dX6_changed_56 rfl (by decide) rfl (fun _ => rfl) (fun v9 hv9 => ?_)
    rw [hv9]
    refine gx_aload_n B dX6_changed_57 rfl rfl ?_
    refine gx_getr (t := 77) B fl_X6_7 rfl (by decide) rfl dX6_changed_58 ?_
    refine z_iconst B dX6_changed_61 ?_
    refine z_iald 1 B rfl (by decide) rfl (by decide) (by decide) dX6_changed_62 ?_
    refine z_istore (fun v9 => [(0, .ref (gx_ad G 76)), (1, .int (zI a)), (2, .int (zI b)), (3, .int (zI (Ja 77 0))), (4, .int (zI v9))]) B dX6_changed_63 (by decide) rfl (fun _ => rfl) (fun v9 hv9 => ?_)
    rw [hv9]
    refine gx_aload_n B dX6_changed_65 rfl rfl ?_
    refine gx_getr (t := 77) B fl_X6_7 rfl (by decide) rfl dX6_changed_66 ?_
    refine z_iconst B dX6_changed_69 ?_
    refine gx_iload_n B dX6_changed_70 rfl rfl ?_
    refine z_iast 0 B rfl (by decide) rfl (by decide) (by decide) dX6_changed_71 (fun J2 hJ2 => ?_)
    refine gx_aload_n B dX6_changed_72 rfl rfl ?_
    refine gx_getr (t := 77) B fl_X6_7 rfl (by decide) rfl dX6_changed_73 ?_
    refine z_iconst B dX6_changed_76 ?_
    refine gx_iload_n B dX6_changed_77 rfl rfl ?_
    refine z_iast 1 B rfl (by decide) rfl (by decide) (by decide) dX6_changed_78 (fun J3 hJ3 => ?_)
    refine gx_aload_n B dX6_changed_79 rfl rfl ?_
    have hM3 : VM J3 n := VM.eqn (VM.sys hM c5) (fun k => by rw [hJ3, hJ2]; exact zup2_congr ha7 k) (fun k => by rw [hJ3, hJ2, zup_ne (by omega), zup_ne (by omega), zup_ne (by omega), zup_ne (by omega), hfa _ _ (by omega), hJ1.2 _ _ (by omega) (by omega)]) (fun k => by rw [hJ3, hJ2, zup_ne (by omega), zup_ne (by omega), zup_ne (by omega), zup_ne (by omega), hfa _ _ (by omega), hJ1.2 _ _ (by omega) (by omega)])
    refine z_callVv [] B lv_X6_124 (mX6_findHand hG J3 hM3) rfl (by decide) rfl rfl (Nat.le_of_ble_eq_true rfl) (by decide) (by decide) dX6_changed_80 (fun J4 hJ4 => ?_)
    refine z_iconst B dX6_changed_83 ?_
    refine z_istore (fun v9 => [(0, .ref (gx_ad G 76)), (1, .int (zI a)), (2, .int (zI b)), (3, .int (zI (Ja 77 0))), (4, .int (zI (Ja 77 1))), (5, .int (zI v9))]) B dX6_changed_84 (by decide) rfl (fun _ => rfl) (fun v5 hv5 => ?_)
    rw [show v5 = sumN (dfB (fun x j => J4 88 (3 * x + j)) (btA J4)) 0 from (by rw [hv5]; rfl)]
    refine z_iconst B dX6_changed_86 ?_
    refine z_istore (fun v9 => [(0, .ref (gx_ad G 76)), (1, .int (zI a)), (2, .int (zI b)), (3, .int (zI (Ja 77 0))), (4, .int (zI (Ja 77 1))), (5, .int (zI (sumN (dfB (fun x j => J4 88 (3 * x + j)) (btA J4)) 0))), (6, .int (zI v9))]) B dX6_changed_87 (by decide) rfl (fun _ => rfl) (fun v6 hv6 => ?_)
    rw [show v6 = ((0 : Nat) : Int) from (by omega)]
    have eR : ∀ x k, ¬ (80 ≤ x ∧ x ≤ 89) → ¬ (x = 76 ∧ k ≠ 2) → ¬ (x = 77 ∧ (k = 0 ∨ k = 1)) → J4 x k = J x k := fun x k q1 q2 q3 => by rw [hJ4.2 x k (by omega) (by omega), hJ3, zup_ne (by omega), hJ2, zup_ne (by omega), hfa x k (by omega), hJ1.2 x k (by omega) (by omega)]
    have hb1 : ∀ x, x < n → ∀ j, j < 3 → J4 88 (3 * x + j) = btA J1 x j := fun x hx j hj => by
      rw [hJ4.2 _ _ (by omega) (by omega), hJ3, zup_ne (by omega), hJ2, zup_ne (by omega), hqa _ (by omega), show (3 * x + j) / 3 = x by omega, show (3 * x + j) % 3 = j by omega]
    refine lpChO hG B (n := n) (by rw [eR _ _ (by omega) (by omega) (by omega)]; exact h5) h8 (fun x hx => hJ4.1.bn hx) (fun x hx j hj => by rw [hb1 x hx j hj]; have := btA_le (i := j) hJ1.1 hx; exact ⟨by omega, by omega⟩) (fun x hx j hj => by have := btA_le (i := j) hJ4.1 hx; exact ⟨by omega, by omega⟩) Rt (Or.inl ⟨c5, fun x k q1 q2 => ?_, J1, J4, hJ1.1, HFound.num ?_ ?_ ?_ hJ4.1, ?_⟩) 0 (by omega)
    · by_cases q3 : x = 77 ∧ (k = 0 ∨ k = 1)
      · obtain ⟨rfl, rfl | rfl⟩ := q3
        · rw [zup_ne (by omega), zup_self]; exact ha7 0
        · rw [zup_self]; exact ha7 1
      · rw [zup_ne (by omega), zup_ne (by omega)]; exact eR x k q1 q2 q3
    · rw [hJ3, hJ2, zup_ne (by omega), zup_self, zup_ne (by omega), zup_self]
    · rw [hJ3, hJ2, zup_self, zup_self]
    · intro k; rw [hJ3, hJ2, zup_ne (by omega), zup_ne (by omega), zup_ne (by omega), zup_ne (by omega), hfa _ _ (by omega), hJ1.2 _ _ (by omega) (by omega)]
    · refine sumN_congr (fun x hx => ?_)
      unfold dfB
      have e : lkB (fun j => J4 88 (3 * x + j)) (btA J4 x) 3 = lkB (btA J1 x) (btA J4 x) 3 := lkB_congr (fun j hj => hb1 x hx j hj) (fun j hj => rfl)
      rw [e]
  · rw [bz_0] at c5
    refine z_iconst B dX6_changed_8 ?_
    refine z_ireti B Rt dX6_changed_9 ?_
    exact Or.inr ⟨c5, rfl, rfl⟩

