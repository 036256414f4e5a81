
def absZ (x : Int) : Int := if 0 ≤ x then x else 0 - x
def minN (f : Nat → Int) (i : Int) : Nat → Int
  | 0 => i
  | n + 1 => min (minN f i n) (f n)
def isMinZ (n : Nat) (f : Nat → Int) (v : Int) : Prop := (∃ k, k < n ∧ f k = v) ∧ ∀ k, k < n → v ≤ f k
theorem minN_le {f : Nat → Int} {i : Int} : ∀ {n k : Nat}, k < n → minN f i n ≤ f k
  | n + 1, k, h => by
    unfold minN
    by_cases e : k = n
    · rw [e]; omega
    · have := minN_le (f := f) (i := i) (n := n) (k := k) (by omega); omega
theorem minN_le_i {f : Nat → Int} {i : Int} : ∀ n : Nat, minN f i n ≤ i
  | 0 => Int.le_refl _
  | n + 1 => by have := minN_le_i (f := f) (i := i) n; unfold minN; omega
theorem minN_ge {f : Nat → Int} {i b : Int} (hi : b ≤ i) : ∀ {n : Nat}, (∀ k, k < n → b ≤ f k) → b ≤ minN f i n
  | 0, _ => hi
  | n + 1, h => by have := minN_ge hi (n := n) (fun k hk => h k (by omega)); have := h n (by omega); unfold minN; omega
theorem minN_at {f : Nat → Int} {i : Int} : ∀ {n : Nat}, 0 < n → (∀ k, k < n → f k ≤ i) → ∃ k, k < n ∧ f k = minN f i n
  | n + 1, _, h => by
    by_cases e : n = 0
    · subst e
      exact ⟨0, by omega, by have := h 0 (by omega); simp only [minN]; omega⟩
    · obtain ⟨k, hk, he⟩ := minN_at (f := f) (i := i) (n := n) (by omega) (fun k hk => h k (by omega))
      by_cases e2 : f n ≤ minN f i n
      · exact ⟨n, by omega, by simp only [minN]; omega⟩
      · exact ⟨k, by omega, by rw [he]; simp only [minN]; omega⟩
theorem minN_is {f : Nat → Int} {i : Int} {n : Nat} (h0 : 0 < n) (h : ∀ k, k < n → f k ≤ i) : isMinZ n f (minN f i n) := ⟨minN_at h0 h, fun _ hk => minN_le hk⟩
/-- the first of the least -/
def isFst (n : Nat) (f : Nat → Int) (c : Nat) : Prop := c < n ∧ (∀ k, k < n → f c ≤ f k) ∧ ∀ k, k < c → f c < f k
theorem isFst_uni {n : Nat} {f g : Nat → Int} {c d : Nat} (hfg : ∀ k, k < n → f k = g k) (h1 : isFst n f c) (h2 : isFst n g d) : c = d := by
  rcases Nat.lt_trichotomy c d with h | h | h
  · have a := h1.2.1 d h2.1
    have b := h2.2.2 c h
    rw [hfg c h1.1, hfg d h2.1] at a; omega
  · exact h
  · have a := h2.2.1 c h1.1
    have b := h1.2.2 d h
    rw [hfg c h1.1, hfg d h2.1] at b; omega
theorem isMin_uni {n : Nat} {f g : Nat → Int} {u v : Int} (hfg : ∀ k, k < n → f k = g k) (h1 : isMinZ n f u) (h2 : isMinZ n g v) : u = v := by
  obtain ⟨⟨k, hk, ek⟩, a⟩ := h1
  obtain ⟨⟨j, hj, ej⟩, b⟩ := h2
  have := a j hj
  have := b k hk
  rw [hfg j hj] at *
  rw [hfg k hk] at *
  omega
def hsz (J : zJ) (a b : Nat) : Int := J (a + 15 + 2 * b) 2
def hct (J : zJ) (a b : Nat) : Nat := (J (a + 15 + 2 * b) 1).toNat
def hpl (J : zJ) (a b k : Nat) : Int := zdiv (digZ (J (a + 15 + 2 * b) 2) (J (a + 15 + 2 * b + 1) k) 0) 6
def htc (J : zJ) (a b k : Nat) : Int := J (a + 7 + b) k
theorem dig_le (n c i : Int) : 0 ≤ digZ n c i ∧ digZ n c i ≤ 127 := by
  unfold digZ
  have hc : zand (zshr c (7 * (n - 1 - i))) 127 = zand ((127 : Nat) : Int) (zshr c (7 * (n - 1 - i))) := by
    show (zI _ &&& zI 127).toInt = (zI ((127 : Nat) : Int) &&& zI _).toInt
    rw [Int32.and_comm]; rfl
  obtain ⟨m, hm, e⟩ := zand_nat (a := 127) (by omega) (zshr c (7 * (n - 1 - i)))
  rw [hc, e]
  omega
theorem hpl_le (J : zJ) (a b k : Nat) : 0 ≤ hpl J a b k ∧ hpl J a b k ≤ 21 := by
  have := dig_le (J (a + 15 + 2 * b) 2) (J (a + 15 + 2 * b + 1) k) 0
  unfold hpl
  rw [zdiv_nn (by omega) (by omega) (by omega) (by omega)]
  omega
theorem absZ_le {x b : Int} (h1 : -b ≤ x) (h2 : x ≤ b) : 0 ≤ absZ x ∧ absZ x ≤ b := by unfold absZ; split <;> omega
/-- what a hand's methods need of its goods: n beats, counts of 1 to 20 -/
def HPre (J : zJ) (a n : Nat) : Prop := n ≤ 8 ∧ ∀ b, b < n → 1 ≤ J (a + 15 + 2 * b) 1 ∧ J (a + 15 + 2 * b) 1 ≤ 20 ∧ 0 ≤ J (a + 15 + 2 * b) 2 ∧ J (a + 15 + 2 * b) 2 ≤ 3
theorem HPre.ct {J : zJ} {a n b : Nat} (h : HPre J a n) (hb : b < n) : J (a + 15 + 2 * b) 1 = (hct J a b : Int) ∧ 1 ≤ hct J a b ∧ hct J a b ≤ 20 := by
  have := h.2 b hb
  unfold hct
  omega

theorem lpFew {G : gx_G} {X : gx_X} (hG : gx_OK G 76) (B : gx_B G X RX4 cX4_fewestOnward 6 rmX4_fewestOnward 76) {a m n : Nat} (ha : isHand a) {J : zJ} (hP : HPre J a n) (hm : m < n) {p : Int} (hp0 : 0 ≤ p) (hp1 : p ≤ 21) (ht : ∀ j, j < hct J a m → 0 ≤ htc J a m j ∧ htc J a m j ≤ 1000) (Rt : gx_Ri G X .int (zpi (fun r J' => r = minN (fun j => absZ (p - hpl J a m j) + htc J a m j) 1073741824 (hct J a m) ∧ J' = J))) : ∀ k : Nat, k ≤ hct J a m → gx_WG G X 6 (zh J) 6 [(0, .ref (gx_ad G a)), (1, .int (zI p)), (2, .int (zI (m : Int))), (3, .int (zI (minN (fun j => absZ (p - hpl J a m j) + htc J a m j) 1073741824 k))), (4, .int (zI (k : Int)))] [] := by
  refine up_ind (fun k hi ih => ?_)
  have h8 := hP.1
  have hc := hP.ct hm
  have hmn := minN_le_i (f := (fun j => absZ (p - hpl J a m j) + htc J a m j)) (i := 1073741824) k
  have hgn : 0 ≤ minN (fun j => absZ (p - hpl J a m j) + htc J a m j) 1073741824 k := minN_ge (by omega) (fun j hj => by have h1 := absZ_le (x := p - hpl J a m j) (b := 21) (by have := hpl_le J a m j; omega) (by have := hpl_le J a m j; omega); have h2 := ht j (by omega); omega)
  refine gx_iload B dX4_fewestOnward_6 rfl ?_
  refine gx_aload_n B dX4_fewestOnward_8 rfl rfl ?_
  refine gx_getr (t := (a + 4)) B fl_X4_20 (kHand ha) (bHand ha) (rHand1 ha) dX4_fewestOnward_9 ?_
  refine gx_iload_n B dX4_fewestOnward_12 rfl rfl ?_
  refine z_aald m (a + 15 + 2 * m) B (kHg ha) (cHg ha) rfl (show m < 8 by omega) (by decide) (rHg ha (show m < 8 by omega)) dX4_fewestOnward_13 ?_
  refine z_geti B fl_X4_72 (kGoods (gdH ha (show m < 8 by omega))) (bGoods (gdH ha (show m < 8 by omega))) (zGoods1 (gdH ha (show m < 8 by omega))) dX4_fewestOnward_14 ?_
  refine z_icmp_ge (tgt := 61) B dX4_fewestOnward_17 ⟨by omega, by omega⟩ ⟨by omega, by omega⟩ (by decide) (fun c17 => ?_) (fun c17 => ?_)
  · refine gx_iload_n B dX4_fewestOnward_61 rfl rfl ?_
    refine z_ireti B Rt dX4_fewestOnward_62 ?_
    refine ⟨?_, rfl⟩
    rw [show k = hct J a m by omega]
  · refine gx_iload_n B dX4_fewestOnward_20 rfl rfl ?_
    refine gx_aload_n B dX4_fewestOnward_21 rfl rfl ?_
    refine gx_getr (t := (a + 4)) B fl_X4_20 (kHand ha) (bHand ha) (rHand1 ha) dX4_fewestOnward_22 ?_
    refine gx_iload_n B dX4_fewestOnward_25 rfl rfl ?_
    refine z_aald m (a + 15 + 2 * m) B (kHg ha) (cHg ha) rfl (show m < 8 by omega) (by decide) (rHg ha (show m < 8 by omega)) dX4_fewestOnward_26 ?_
    refine gx_iload B dX4_fewestOnward_27 rfl ?_
    have hpk := hpl_le J a m k
    have htk : 0 ≤ htc J a m k ∧ htc J a m k ≤ 1000 := ht k (by omega)
    refine z_callVi [.int (zI (k : Int))] B lv_X4_75 (mX3_placeOf hG (gdH ha (by omega)) J (k := k) (by omega)) (kGoods (gdH ha (show m < 8 by omega))) (bGoods (gdH ha (show m < 8 by omega))) rfl rfl (Nat.le_of_ble_eq_true rfl) (by decide) (by decide) dX4_fewestOnward_29 (fun r2 J1 hJ1 => ?_)
    rw [show r2 = hpl J a m k from hJ1.1, hJ1.2]
    refine z_isub B dX4_fewestOnward_32 ?_
    refine z_mabs B lm_X4_83 (by decide) (Nat.le_of_ble_eq_true rfl) ⟨by omega, by omega⟩ dX4_fewestOnward_33 ?_
    refine z_istore (fun v9 => [(0, .ref (gx_ad G a)), (1, .int (zI p)), (2, .int (zI (m : Int))), (3, .int (zI (minN (fun j => absZ (p - hpl J a m j) + htc J a m j) 1073741824 k))), (4, .int (zI (k : Int))), (5, .int (zI v9))]) B dX4_fewestOnward_36 (by decide) rfl (fun _ => rfl) (fun v5 hv5 => ?_)
    rw [show v5 = absZ (p - hpl J a m k) from (by rw [hv5]; rfl)]
    refine gx_iload_n B dX4_fewestOnward_38 rfl rfl ?_
    refine gx_iload B dX4_fewestOnward_39 rfl ?_
    refine gx_aload_n B dX4_fewestOnward_41 rfl rfl ?_
    refine gx_getr (t := (a + 6)) B fl_X4_34 (kHand ha) (bHand ha) (rHand4 ha) dX4_fewestOnward_42 ?_
    refine gx_iload_n B dX4_fewestOnward_45 rfl rfl ?_
    refine z_aald2 m (a + 7 + m) B (kHj ha) (cHj ha) rfl (show m < 8 by omega) (by decide) (rHj ha (show m < 8 by omega)) dX4_fewestOnward_46 ?_
    refine gx_iload B dX4_fewestOnward_47 rfl ?_
    refine z_iald k B (kHjr ha (show m < 8 by omega)) (cHjr ha (show m < 8 by omega)) rfl (show k < 20 by omega) (by decide) dX4_fewestOnward_49 ?_
    rw [show J (a + 7 + m) k = htc J a m k from rfl]
    refine z_iadd B dX4_fewestOnward_50 ?_
    have hab := absZ_le (x := p - hpl J a m k) (b := 21) (by omega) (by omega)
    refine z_mmin B lm_X4_88 (by decide) (Nat.le_of_ble_eq_true rfl) ⟨by omega, by omega⟩ ⟨by omega, by omega⟩ dX4_fewestOnward_51 ?_
    refine z_istore_n (fun v9 => [(0, .ref (gx_ad G a)), (1, .int (zI p)), (2, .int (zI (m : Int))), (3, .int (zI v9)), (4, .int (zI (k : Int))), (5, .int (zI (absZ (p - hpl J a m k))))]) B dX4_fewestOnward_54 rfl (by decide) rfl (fun _ => rfl) (fun v3 hv3 => ?_)
    rw [show v3 = minN (fun j => absZ (p - hpl J a m j) + htc J a m j) 1073741824 (k + 1) from (by rw [hv3]; rfl)]
    refine z_iinc (fun v9 => [(0, .ref (gx_ad G a)), (1, .int (zI p)), (2, .int (zI (m : Int))), (3, .int (zI (minN (fun j => absZ (p - hpl J a m j) + htc J a m j) 1073741824 (k + 1)))), (4, .int (zI v9)), (5, .int (zI (absZ (p - hpl J a m k))))]) B dX4_fewestOnward_55 rfl (by decide) rfl (fun _ => rfl) (fun v4 hv4 => ?_)
    rw [show v4 = ((k + 1 : Nat) : Int) from (by omega)]
    refine gx_goto (tgt := 6) B dX4_fewestOnward_58 (by decide) ?_
    refine gx_sub [0, 1, 2, 3, 4] rfl ?_
    exact ih (by omega)

theorem mX4_fewestOnward {l : Launch} {G : gx_G} (hG : gx_OK G 76) {a m n : Nat} (ha : isHand a) (J : zJ) (hP : HPre J a n) (hm : m < n) {p : Int} (hp0 : 0 ≤ p) (hp1 : p ≤ 21) (ht : ∀ j, j < hct J a m → 0 ≤ htc J a m j ∧ htc J a m j ≤ 1000) : zMi l G yX4_fewestOnward cX4_fewestOnward 6 .int rmX4_fewestOnward [.ref (gx_ad G a), .int (zI p), .int (zI (m : Int))] J (fun r J' => r = minN (fun j => absZ (p - hpl J a m j) + htc J a m j) 1073741824 (hct J a m) ∧ J' = J) := by
  refine gx_mi hG (by decide) (Nat.le_of_ble_eq_true rfl) (fun X hla B Rt => ?_)
  subst hla
  have B : gx_B G X RX4 cX4_fewestOnward 6 rmX4_fewestOnward 76 := B
  show gx_WG G X 6 (zh J) 0 [(0, .ref (gx_ad G a)), (1, .int (zI p)), (2, .int (zI (m : Int)))] []
  refine z_ldc 1073741824 B dX4_fewestOnward_0 lk_X4_82 (by decide) ?_
  refine z_istore_n (fun v9 => [(0, .ref (gx_ad G a)), (1, .int (zI p)), (2, .int (zI (m : Int))), (3, .int (zI v9))]) B dX4_fewestOnward_2 rfl (by decide) rfl (fun _ => rfl) (fun v3 hv3 => ?_)
  rw [show v3 = minN (fun j => absZ (p - hpl J a m j) + htc J a m j) 1073741824 0 from (by rw [hv3]; rfl)]
  refine z_iconst B dX4_fewestOnward_3 ?_
  refine z_istore (fun v9 => [(0, .ref (gx_ad G a)), (1, .int (zI p)), (2, .int (zI (m : Int))), (3, .int (zI (minN (fun j => absZ (p - hpl J a m j) + htc J a m j) 1073741824 0))), (4, .int (zI v9))]) B dX4_fewestOnward_4 (by decide) rfl (fun _ => rfl) (fun v4 hv4 => ?_)
  rw [show v4 = ((0 : Nat) : Int) from (by omega)]
  exact lpFew hG B ha hP hm hp0 hp1 ht Rt 0 (by omega)


/-- the jump from the beat ahead (-1: none) *)-/
def jfc (J : zJ) (a : Nat) (c : Nat → Nat) (pv : Int) (b k : Nat) : Int := if pv = -1 then 0 else absZ (hpl J a pv.toNat (c pv.toNat) - hpl J a b k)
theorem jfc_le (J : zJ) (a : Nat) (c : Nat → Nat) (pv : Int) (b k : Nat) : 0 ≤ jfc J a c pv b k ∧ jfc J a c pv b k ≤ 21 := by
  unfold jfc
  split
  · omega
  · have h1 := hpl_le J a pv.toNat (c pv.toNat)
    have h2 := hpl_le J a b k
    exact absZ_le (by omega) (by omega)
def hch (J : zJ) (a b : Nat) : Nat := (J (a + 5) b).toNat

theorem mX4_jumpFromChosen {l : Launch} {G : gx_G} (hG : gx_OK G 76) {a b n k : Nat} (ha : isHand a) (J : zJ) (hn : n ≤ 8) (hb : b < n) (hk : k < 20) {pv : Int} (hv : pv = -1 ∨ (0 ≤ pv ∧ pv < n ∧ 0 ≤ J (a + 5) pv.toNat ∧ J (a + 5) pv.toNat < 20)) : zMi l G yX4_jumpFromChosen cX4_jumpFromChosen 4 .int rmX4_jumpFromChosen [.ref (gx_ad G a), .int (zI pv), .int (zI (b : Int)), .int (zI (k : Int))] J (fun r J' => r = jfc J a (hch J a) pv b k ∧ J' = J) := by
  refine gx_mi hG (by decide) (Nat.le_of_ble_eq_true rfl) (fun X hla B Rt => ?_)
  subst hla
  have B : gx_B G X RX4 cX4_jumpFromChosen 4 rmX4_jumpFromChosen 76 := B
  show gx_WG G X 4 (zh J) 0 [(0, .ref (gx_ad G a)), (1, .int (zI pv)), (2, .int (zI (b : Int))), (3, .int (zI (k : Int)))] []
  refine gx_iload_n B dX4_jumpFromChosen_0 rfl rfl ?_
  refine z_iconst B dX4_jumpFromChosen_1 ?_
  refine z_icmp_ne (tgt := 7) B dX4_jumpFromChosen_2 ⟨by omega, by omega⟩ ⟨by omega, by omega⟩ (by decide) (fun c2 => ?_) (fun c2 => ?_)
  · refine gx_aload_n B dX4_jumpFromChosen_7 rfl rfl ?_
    refine gx_getr (t := (a + 4)) B fl_X4_20 (kHand ha) (bHand ha) (rHand1 ha) dX4_jumpFromChosen_8 ?_
    refine gx_iload_n B dX4_jumpFromChosen_11 rfl rfl ?_
    refine z_aald pv.toNat (a + 15 + 2 * pv.toNat) B (kHg ha) (cHg ha) (by omega) (show pv.toNat < 8 by omega) (by decide) (rHg ha (show pv.toNat < 8 by omega)) dX4_jumpFromChosen_12 ?_
    refine gx_aload_n B dX4_jumpFromChosen_13 rfl rfl ?_
    refine gx_getr (t := (a + 5)) B fl_X4_24 (kHand ha) (bHand ha) (rHand2 ha) dX4_jumpFromChosen_14 ?_
    refine gx_iload_n B dX4_jumpFromChosen_17 rfl rfl ?_
    refine z_iald pv.toNat B (kHc ha) (cHc ha) (by omega) (show pv.toNat < 8 by omega) (by decide) dX4_jumpFromChosen_18 ?_
    rw [show J (a + 5) pv.toNat = (hch J a pv.toNat : Int) from (by unfold hch; omega)]
    refine z_callVi [.int (zI (hch J a pv.toNat : Int))] B lv_X4_75 (mX3_placeOf hG (gdH ha (by omega)) J (k := (hch J a pv.toNat)) (by unfold hch; omega)) (kGoods (gdH ha (show pv.toNat < 8 by omega))) (bGoods (gdH ha (show pv.toNat < 8 by omega))) rfl rfl (Nat.le_of_ble_eq_true rfl) (by decide) (by decide) dX4_jumpFromChosen_19 (fun r2 J1 hJ1 => ?_)
    rw [show r2 = hpl J a pv.toNat (hch J a pv.toNat) from hJ1.1, hJ1.2]
    refine gx_aload_n B dX4_jumpFromChosen_22 rfl rfl ?_
    refine gx_getr (t := (a + 4)) B fl_X4_20 (kHand ha) (bHand ha) (rHand1 ha) dX4_jumpFromChosen_23 ?_
    refine gx_iload_n B dX4_jumpFromChosen_26 rfl rfl ?_
    refine z_aald b (a + 15 + 2 * b) B (kHg ha) (cHg ha) rfl (show b < 8 by omega) (by decide) (rHg ha (show b < 8 by omega)) dX4_jumpFromChosen_27 ?_
    refine gx_iload_n B dX4_jumpFromChosen_28 rfl rfl ?_
    refine z_callVi [.int (zI (k : Int))] B lv_X4_75 (mX3_placeOf hG (gdH ha (by omega)) J (k := k) hk) (kGoods (gdH ha (show b < 8 by omega))) (bGoods (gdH ha (show b < 8 by omega))) rfl rfl (Nat.le_of_ble_eq_true rfl) (by decide) (by decide) dX4_jumpFromChosen_29 (fun r4 J3 hJ3 => ?_)
    rw [show r4 = hpl J a b k from hJ3.1, hJ3.2]
    refine z_isub B dX4_jumpFromChosen_32 ?_
    have h1 := hpl_le J a pv.toNat (hch J a pv.toNat)
    have h2 := hpl_le J a b k
    refine z_mabs B lm_X4_83 (by decide) (Nat.le_of_ble_eq_true rfl) ⟨by omega, by omega⟩ dX4_jumpFromChosen_33 ?_
    refine z_ireti B Rt dX4_jumpFromChosen_36 ?_
    refine ⟨?_, rfl⟩
    unfold jfc
    rw [if_neg c2]
    rfl
  · refine z_iconst B dX4_jumpFromChosen_5 ?_
    refine z_ireti B Rt dX4_jumpFromChosen_6 ?_
    refine ⟨?_, rfl⟩
    unfold jfc
    rw [if_pos c2]


def fbN (f : Nat → Int) : Nat → Int × Nat
  | 0 => (1073741824, 0)
  | n + 1 => if f n < (fbN f n).1 then (f n, n) else fbN f n
theorem fbN_is {f : Nat → Int} : ∀ {n : Nat}, (∀ k, k < n → f k < 1073741824) → (n = 0 → fbN f n = (1073741824, 0)) ∧ (0 < n → isFst n f (fbN f n).2 ∧ (fbN f n).1 = f (fbN f n).2)
  | 0, _ => ⟨fun _ => rfl, fun h => by omega⟩
  | n + 1, h => by
    refine ⟨fun h => by omega, fun _ => ?_⟩
    have ih := fbN_is (f := f) (n := n) (fun k hk => h k (by omega))
    by_cases e0 : n = 0
    · subst e0
      have h0 := h 0 (by omega)
      have e : fbN f 1 = (f 0, 0) := by
        show (if f 0 < (fbN f 0).1 then (f 0, 0) else fbN f 0) = _
        rw [if_pos (show f 0 < (fbN f 0).1 from h0)]
      rw [e]
      exact ⟨⟨by omega, fun k hk => by rw [show k = 0 by omega]; exact Int.le_refl _, fun k hk => absurd hk (Nat.not_lt_zero k)⟩, rfl⟩
    · obtain ⟨⟨i1, i2, i3⟩, i4⟩ := ih.2 (by omega)
      by_cases e : f n < (fbN f n).1
      · have e2 : fbN f (n + 1) = (f n, n) := by
          show (if f n < (fbN f n).1 then (f n, n) else fbN f n) = _
          rw [if_pos e]
        rw [e2]
        rw [i4] at e
        refine ⟨⟨by omega, fun k hk => ?_, fun k hk => ?_⟩, rfl⟩
        · by_cases ek : k = n
          · rw [ek]; exact Int.le_refl _
          · have := i2 k (by omega); show f n ≤ f k; omega
        · have := i2 k (by omega); show f n < f k; omega
      · have e2 : fbN f (n + 1) = fbN f n := by
          show (if f n < (fbN f n).1 then (f n, n) else fbN f n) = _
          rw [if_neg e]
        rw [e2]
        rw [i4] at e
        refine ⟨⟨by omega, fun k hk => ?_, i3⟩, i4⟩
        by_cases ek : k = n
        · rw [ek]; omega
        · exact i2 k (by omega)
theorem fbN_lt {f : Nat → Int} : ∀ n : Nat, 0 < n → (fbN f n).2 < n
  | n + 1, _ => by
    show (if f n < (fbN f n).1 then (f n, n) else fbN f n).2 < n + 1
    split
    · exact Nat.lt_succ_self n
    · by_cases e : n = 0
      · subst e; exact Nat.lt_succ_self 0
      · have := fbN_lt (f := f) n (by omega); omega
theorem fbN_le {f : Nat → Int} : ∀ n : Nat, (∀ k, k < n → 0 ≤ f k) → 0 ≤ (fbN f n).1 ∧ (fbN f n).1 ≤ 1073741824
  | 0, _ => by simp [fbN]
  | n + 1, h => by
    have ih := fbN_le (f := f) n (fun k hk => h k (by omega))
    show 0 ≤ (if f n < (fbN f n).1 then (f n, n) else fbN f n).1 ∧ (if f n < (fbN f n).1 then (f n, n) else fbN f n).1 ≤ _
    split
    · have := h n (by omega); exact ⟨this, by show f n ≤ _; omega⟩
    · exact ih

theorem lpFb {G : gx_G} {X : gx_X} (hG : gx_OK G 76) (B : gx_B G X RX4 cX4_firstBest 7 rmX4_firstBest 76) {a b n : Nat} (ha : isHand a) {J : zJ} (hP : HPre J a n) (hb : b < n) {pv : Int} (hv : pv = -1 ∨ (0 ≤ pv ∧ pv < n ∧ 0 ≤ J (a + 5) pv.toNat ∧ J (a + 5) pv.toNat < 20)) (ht : ∀ j, j < hct J a b → 0 ≤ htc J a b j ∧ htc J a b j ≤ 1000) (Rt : gx_Ri G X .int (zpi (fun r J' => r = ((fbN (fun k => jfc J a (hch J a) pv b k + htc J a b k) (hct J a b)).2 : Int) ∧ J' = J))) : ∀ k : Nat, k ≤ hct J a b → gx_WG G X 7 (zh J) 9 [(0, .ref (gx_ad G a)), (1, .int (zI pv)), (2, .int (zI (b : Int))), (3, .int (zI ((fbN (fun k => jfc J a (hch J a) pv b k + htc J a b k) k).2 : Int))), (4, .int (zI ((fbN (fun k => jfc J a (hch J a) pv b k + htc J a b k) k).1))), (5, .int (zI (k : Int)))] [] := by
  refine up_ind (fun k hi ih => ?_)
  have h8 := hP.1
  have hc := hP.ct hb
  have hf := fbN_le (f := (fun k => jfc J a (hch J a) pv b k + htc J a b k)) k (fun j hj => by have h1 := jfc_le J a (hch J a) pv b j; have h2 := ht j (by omega); show 0 ≤ jfc J a (hch J a) pv b j + htc J a b j; omega)
  refine gx_iload B dX4_firstBest_9 rfl ?_
  refine gx_aload_n B dX4_firstBest_11 rfl rfl ?_
  refine gx_getr (t := (a + 4)) B fl_X4_20 (kHand ha) (bHand ha) (rHand1 ha) dX4_firstBest_12 ?_
  refine gx_iload_n B dX4_firstBest_15 rfl rfl ?_
  refine z_aald b (a + 15 + 2 * b) B (kHg ha) (cHg ha) rfl (show b < 8 by omega) (by decide) (rHg ha (show b < 8 by omega)) dX4_firstBest_16 ?_
  refine z_geti B fl_X4_72 (kGoods (gdH ha (show b < 8 by omega))) (bGoods (gdH ha (show b < 8 by omega))) (zGoods1 (gdH ha (show b < 8 by omega))) dX4_firstBest_17 ?_
  refine z_icmp_ge (tgt := 63) B dX4_firstBest_20 ⟨by omega, by omega⟩ ⟨by omega, by omega⟩ (by decide) (fun c20 => ?_) (fun c20 => ?_)
  · refine gx_iload_n B dX4_firstBest_63 rfl rfl ?_
    refine z_ireti B Rt dX4_firstBest_64 ?_
    refine ⟨?_, rfl⟩
    rw [show k = hct J a b by omega]
  · refine gx_aload_n B dX4_firstBest_23 rfl rfl ?_
    refine gx_iload_n B dX4_firstBest_24 rfl rfl ?_
    refine gx_iload_n B dX4_firstBest_25 rfl rfl ?_
    refine gx_iload B dX4_firstBest_26 rfl ?_
    have hj0 := jfc_le J a (hch J a) pv b k
    have htk : 0 ≤ htc J a b k ∧ htc J a b k ≤ 1000 := ht k (by omega)
    refine z_callVi [.int (zI pv), .int (zI (b : Int)), .int (zI (k : Int))] B lv_X4_68 (mX4_jumpFromChosen hG ha J (b := b) (n := n) (k := k) hP.1 hb (by omega) (pv := pv) hv) (kHand ha) (bHand ha) rfl rfl (Nat.le_of_ble_eq_true rfl) (by decide) (by decide) dX4_firstBest_28 (fun r2 J1 hJ1 => ?_)
    rw [show r2 = jfc J a (hch J a) pv b k from hJ1.1, hJ1.2]
    refine gx_aload_n B dX4_firstBest_31 rfl rfl ?_
    refine gx_getr (t := (a + 6)) B fl_X4_34 (kHand ha) (bHand ha) (rHand4 ha) dX4_firstBest_32 ?_
    refine gx_iload_n B dX4_firstBest_35 rfl rfl ?_
    refine z_aald2 b (a + 7 + b) B (kHj ha) (cHj ha) rfl (show b < 8 by omega) (by decide) (rHj ha (show b < 8 by omega)) dX4_firstBest_36 ?_
    refine gx_iload B dX4_firstBest_37 rfl ?_
    refine z_iald k B (kHjr ha (show b < 8 by omega)) (cHjr ha (show b < 8 by omega)) rfl (show k < 20 by omega) (by decide) dX4_firstBest_39 ?_
    rw [show J (a + 7 + b) k = htc J a b k from rfl]
    refine z_iadd B dX4_firstBest_40 ?_
    refine z_istore (fun v9 => [(0, .ref (gx_ad G a)), (1, .int (zI pv)), (2, .int (zI (b : Int))), (3, .int (zI ((fbN (fun k => jfc J a (hch J a) pv b k + htc J a b k) k).2 : Int))), (4, .int (zI ((fbN (fun k => jfc J a (hch J a) pv b k + htc J a b k) k).1))), (5, .int (zI (k : Int))), (6, .int (zI v9))]) B dX4_firstBest_41 (by decide) rfl (fun _ => rfl) (fun v6 hv6 => ?_)
    rw [show v6 = jfc J a (hch J a) pv b k + htc J a b k from (by rw [hv6])]
    refine gx_iload B dX4_firstBest_43 rfl ?_
    refine gx_iload B dX4_firstBest_45 rfl ?_
    refine z_icmp_ge (tgt := 57) B dX4_firstBest_47 ⟨by omega, by omega⟩ ⟨by omega, by omega⟩ (by decide) (fun c47 => ?_) (fun c47 => ?_)
    · have e2 : fbN (fun k => jfc J a (hch J a) pv b k + htc J a b k) (k + 1) = fbN (fun k => jfc J a (hch J a) pv b k + htc J a b k) k := by
        show (if jfc J a (hch J a) pv b k + htc J a b k < (fbN (fun k => jfc J a (hch J a) pv b k + htc J a b k) k).1 then _ else _) = _
        rw [if_neg (by omega)]
      refine z_iinc (fun v9 => [(0, .ref (gx_ad G a)), (1, .int (zI pv)), (2, .int (zI (b : Int))), (3, .int (zI ((fbN (fun k => jfc J a (hch J a) pv b k + htc J a b k) k).2 : Int))), (4, .int (zI ((fbN (fun k => jfc J a (hch J a) pv b k + htc J a b k) k).1))), (5, .int (zI v9)), (6, .int (zI (jfc J a (hch J a) pv b k + htc J a b k)))]) B dX4_firstBest_57 rfl (by decide) rfl (fun _ => rfl) (fun v5 hv5 => ?_)
      rw [show v5 = ((k + 1 : Nat) : Int) from (by omega)]
      refine gx_goto (tgt := 9) B dX4_firstBest_60 (by decide) ?_
      refine gx_sub [0, 1, 2, 3, 4, 5] rfl ?_
      have h9 := ih (by omega)
      rw [e2] at h9
      exact h9
    · have e2 : fbN (fun k => jfc J a (hch J a) pv b k + htc J a b k) (k + 1) = (jfc J a (hch J a) pv b k + htc J a b k, k) := by
        show (if jfc J a (hch J a) pv b k + htc J a b k < (fbN (fun k => jfc J a (hch J a) pv b k + htc J a b k) k).1 then _ else _) = _
        rw [if_pos c47]
      refine gx_iload B dX4_firstBest_50 rfl ?_
      refine z_istore (fun v9 => [(0, .ref (gx_ad G a)), (1, .int (zI pv)), (2, .int (zI (b : Int))), (3, .int (zI ((fbN (fun k => jfc J a (hch J a) pv b k + htc J a b k) k).2 : Int))), (4, .int (zI v9)), (5, .int (zI (k : Int))), (6, .int (zI (jfc J a (hch J a) pv b k + htc J a b k)))]) B dX4_firstBest_52 (by decide) rfl (fun _ => rfl) (fun v9 hv9 => ?_)
      rw [hv9]
      refine gx_iload B dX4_firstBest_54 rfl ?_
      refine z_istore_n (fun v9 => [(0, .ref (gx_ad G a)), (1, .int (zI pv)), (2, .int (zI (b : Int))), (3, .int (zI v9)), (4, .int (zI (jfc J a (hch J a) pv b k + htc J a b k))), (5, .int (zI (k : Int))), (6, .int (zI (jfc J a (hch J a) pv b k + htc J a b k)))]) B dX4_firstBest_56 rfl (by decide) rfl (fun _ => rfl) (fun v9 hv9 => ?_)
      rw [hv9]
      refine z_iinc (fun v9 => [(0, .ref (gx_ad G a)), (1, .int (zI pv)), (2, .int (zI (b : Int))), (3, .int (zI (k : Int))), (4, .int (zI (jfc J a (hch J a) pv b k + htc J a b k))), (5, .int (zI v9)), (6, .int (zI (jfc J a (hch J a) pv b k + htc J a b k)))]) B dX4_firstBest_57 rfl (by decide) rfl (fun _ => rfl) (fun v5 hv5 => ?_)
      rw [show v5 = ((k + 1 : Nat) : Int) from (by omega)]
      refine gx_goto (tgt := 9) B dX4_firstBest_60 (by decide) ?_
      refine gx_sub [0, 1, 2, 3, 4, 5] rfl ?_
      have h9 := ih (by omega)
      rw [e2] at h9
      exact h9

theorem mX4_firstBest {l : Launch} {G : gx_G} (hG : gx_OK G 76) {a b n : Nat} (ha : isHand a) (J : zJ) (hP : HPre J a n) (hb : b < n) {pv : Int} (hv : pv = -1 ∨ (0 ≤ pv ∧ pv < n ∧ 0 ≤ J (a + 5) pv.toNat ∧ J (a + 5) pv.toNat < 20)) (ht : ∀ j, j < hct J a b → 0 ≤ htc J a b j ∧ htc J a b j ≤ 1000) : zMi l G yX4_firstBest cX4_firstBest 7 .int rmX4_firstBest [.ref (gx_ad G a), .int (zI pv), .int (zI (b : Int))] J (fun r J' => r = ((fbN (fun k => jfc J a (hch J a) pv b k + htc J a b k) (hct J a b)).2 : Int) ∧ J' = J) := by
  refine gx_mi hG (by decide) (Nat.le_of_ble_eq_true rfl) (fun X hla B Rt => ?_)
  subst hla
  have B : gx_B G X RX4 cX4_firstBest 7 rmX4_firstBest 76 := B
  show gx_WG G X 7 (zh J) 0 [(0, .ref (gx_ad G a)), (1, .int (zI pv)), (2, .int (zI (b : Int)))] []
  refine z_iconst B dX4_firstBest_0 ?_
  refine z_istore_n (fun v9 => [(0, .ref (gx_ad G a)), (1, .int (zI pv)), (2, .int (zI (b : Int))), (3, .int (zI v9))]) B dX4_firstBest_1 rfl (by decide) rfl (fun _ => rfl) (fun v3 hv3 => ?_)
  rw [show v3 = ((fbN (fun k => jfc J a (hch J a) pv b k + htc J a b k) 0).2 : Int) from (by rw [hv3]; rfl)]
  refine z_ldc 1073741824 B dX4_firstBest_2 lk_X4_82 (by decide) ?_
  refine z_istore (fun v9 => [(0, .ref (gx_ad G a)), (1, .int (zI pv)), (2, .int (zI (b : Int))), (3, .int (zI ((fbN (fun k => jfc J a (hch J a) pv b k + htc J a b k) 0).2 : Int))), (4, .int (zI v9))]) B dX4_firstBest_4 (by decide) rfl (fun _ => rfl) (fun v4 hv4 => ?_)
  rw [show v4 = (fbN (fun k => jfc J a (hch J a) pv b k + htc J a b k) 0).1 from (by rw [hv4]; rfl)]
  refine z_iconst B dX4_firstBest_6 ?_
  refine z_istore (fun v9 => [(0, .ref (gx_ad G a)), (1, .int (zI pv)), (2, .int (zI (b : Int))), (3, .int (zI ((fbN (fun k => jfc J a (hch J a) pv b k + htc J a b k) 0).2 : Int))), (4, .int (zI ((fbN (fun k => jfc J a (hch J a) pv b k + htc J a b k) 0).1))), (5, .int (zI v9))]) B dX4_firstBest_7 (by decide) rfl (fun _ => rfl) (fun v5 hv5 => ?_)
  rw [show v5 = ((0 : Nat) : Int) from (by omega)]
  exact lpFb hG B ha hP hb hv ht Rt 0 (by omega)

