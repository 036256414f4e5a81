
def isNx (s : Nat → Int) (n b m : Nat) : Prop := b ≤ m ∧ m ≤ n ∧ (∀ x, b ≤ x → x < m → ¬ 0 < s x) ∧ (m < n → 0 < s m)
theorem isNx_uni {s : Nat → Int} {n b m m' : Nat} (h : isNx s n b m) (h' : isNx s n b m') : m = m' := by
  obtain ⟨a1, a2, a3, a4⟩ := h
  obtain ⟨b1, b2, b3, b4⟩ := h'
  rcases Nat.lt_trichotomy m m' with h | h | h
  · exact absurd (a4 (by omega)) (b3 m a1 h)
  · exact h
  · exact absurd (b4 (by omega)) (a3 m' b1 h)
def HTb (s : Nat → Int) (ct : Nat → Nat) (pl t : Nat → Nat → Int) (n b : Nat) : Prop := 0 < s b → ∀ k, k < ct b → (0 ≤ t b k ∧ t b k ≤ 21 * ((n : Int) - b)) ∧ ∀ m, isNx s n (b + 1) m → (m = n → t b k = 0) ∧ (m < n → isMinZ (ct m) (fun j => absZ (pl b k - pl m j) + t m j) (t b k))
def jf (pl : Nat → Nat → Int) (c : Nat → Nat) (pv : Int) (b k : Nat) : Int := if pv = -1 then 0 else absZ (pl pv.toNat (c pv.toNat) - pl b k)
def pvF (s : Nat → Int) : Nat → Int
  | 0 => -1
  | b + 1 => if 0 < s b then (b : Int) else pvF s b
theorem pvF_lt {s : Nat → Int} : ∀ b : Nat, pvF s b = -1 ∨ (0 ≤ pvF s b ∧ pvF s b < b ∧ 0 < s (pvF s b).toNat)
  | 0 => Or.inl rfl
  | b + 1 => by
    unfold pvF
    split
    · exact Or.inr ⟨by omega, by omega, by simpa⟩
    · rcases pvF_lt (s := s) b with h | h
      · exact Or.inl h
      · exact Or.inr ⟨h.1, by omega, h.2.2⟩
def HCb (s : Nat → Int) (ct : Nat → Nat) (pl t : Nat → Nat → Int) (c : Nat → Nat) (b : Nat) : Prop := (¬ 0 < s b → c b = 0) ∧ (0 < s b → isFst (ct b) (fun k => jf pl c (pvF s b) b k + t b k) (c b))
def jsum (s : Nat → Int) (pl : Nat → Nat → Int) (c : Nat → Nat) : Nat → Int
  | 0 => 0
  | b + 1 => jsum s pl c b + (if 0 < s b then jf pl c (pvF s b) b (c b) else 0)
theorem jf_congr {s : Nat → Int} {pl : Nat → Nat → Int} {c c' : Nat → Nat} {b : Nat} (h : ∀ x, x < b → c x = c' x) (k : Nat) : jf pl c (pvF s b) b k = jf pl c' (pvF s b) b k := by
  unfold jf
  rcases pvF_lt (s := s) b with h1 | h1
  · rw [if_pos h1, if_pos h1]
  · rw [if_neg (by omega), if_neg (by omega), h _ (by omega)]
theorem HCb_congr {s : Nat → Int} {ct : Nat → Nat} {pl t : Nat → Nat → Int} {c c' : Nat → Nat} {b : Nat} (h : ∀ x, x ≤ b → c x = c' x) (hc : HCb s ct pl t c b) : HCb s ct pl t c' b := by
  refine ⟨fun h0 => by rw [← h b (Nat.le_refl _)]; exact hc.1 h0, fun h0 => ?_⟩
  have := hc.2 h0
  rw [← h b (Nat.le_refl _)]
  have e : (fun k => jf pl c' (pvF s b) b k + t b k) = (fun k => jf pl c (pvF s b) b k + t b k) := funext fun k => by rw [jf_congr (fun x hx => h x (by omega)) k]
  rw [e]; exact this
theorem jsum_congr {s : Nat → Int} {pl : Nat → Nat → Int} {c c' : Nat → Nat} : ∀ {n : Nat}, (∀ x, x < n → c x = c' x) → jsum s pl c n = jsum s pl c' n
  | 0, _ => rfl
  | n + 1, h => by
    unfold jsum
    rw [jsum_congr (fun x hx => h x (by omega)), jf_congr (fun x hx => h x (by omega)), h n (by omega)]
theorem jf_le (J : zJ) (a : Nat) (c : Nat → Nat) (pv : Int) (b k : Nat) : 0 ≤ jf (hpl J a) c pv b k ∧ jf (hpl J a) c pv b k ≤ 21 := jfc_le J a c pv b k
theorem jsum_le (J : zJ) (a : Nat) (s : Nat → Int) (c : Nat → Nat) : ∀ n : Nat, 0 ≤ jsum s (hpl J a) c n ∧ jsum s (hpl J a) c n ≤ 21 * n
  | 0 => by simp [jsum]
  | n + 1 => by
    have h := jsum_le J a s c n
    have h1 := jf_le J a c (pvF s n) n (c n)
    unfold jsum
    split <;> omega
abbrev LFr (J J' : zJ) (a : Nat) : Prop := ∀ x k, ¬ (a + 7 ≤ x ∧ x < a + 15) → J' x k = J x k
abbrev CFr (J J' : zJ) (a : Nat) : Prop := ∀ x k, ¬ (a + 7 ≤ x ∧ x < a + 15) → x ≠ a + 5 → ¬ (x = a ∧ k = 3) → J' x k = J x k
theorem cfr_eq {J J' : zJ} {a : Nat} (h : CFr J J' a) : hsz J' a = hsz J a ∧ hct J' a = hct J a ∧ hpl J' a = hpl J a := by
  refine ⟨funext fun b => ?_, funext fun b => ?_, funext fun b => funext fun k => ?_⟩
  · exact h _ _ (by omega) (by omega) (by omega)
  · unfold hct; rw [h _ _ (by omega) (by omega) (by omega)]
  · unfold hpl; rw [h _ _ (by omega) (by omega) (by omega), h _ _ (by omega) (by omega) (by omega)]
theorem LFr.c {J J' : zJ} {a : Nat} (h : LFr J J' a) : CFr J J' a := fun x k h1 _ _ => h x k h1
theorem HPre.keep {J J' : zJ} {a n : Nat} (h : HPre J a n) (fr : CFr J J' a) : HPre J' a n := ⟨h.1, fun b hb => by rw [fr _ 1 (by omega) (by omega) (by omega), fr _ 2 (by omega) (by omega) (by omega)]; exact h.2 b hb⟩
def laV (J : zJ) (a b : Nat) (nv : Int) (q : Nat) : Int := if nv = -1 then 0 else minN (fun j => absZ (hpl J a b q - hpl J a nv.toNat j) + htc J a nv.toNat j) 1073741824 (hct J a nv.toNat)

theorem lpLaI {G : gx_G} {X : gx_X} (hG : gx_OK G 76) (B : gx_B G X RX4 cX4_lookAhead 5 rmX4_lookAhead 76) {a b n : Nat} (ha : isHand a) {Jb : zJ} (hP : HPre Jb a n) (hb : b < n) {nv : Int} (hv : nv = -1 ∨ (0 ≤ nv ∧ nv < n ∧ nv ≠ b ∧ ∀ j, j < hct Jb a nv.toNat → 0 ≤ htc Jb a nv.toNat j ∧ htc Jb a nv.toNat j ≤ 1000)) (kk : ∀ J : zJ, (∀ x q, ¬ x = a + 7 + b → J x q = Jb x q) → (∀ q, q < hct Jb a b → J (a + 7 + b) q = laV Jb a b nv q) → gx_WG G X 5 (zh J) 79 [(0, .ref (gx_ad G a)), (1, .int (zI (n : Int))), (2, .int (zI nv)), (3, .int (zI (b : Int)))] []) : ∀ k : Nat, k ≤ hct Jb a b → ∀ (J : zJ), (∀ x q, ¬ x = a + 7 + b → J x q = Jb x q) → (∀ q, q < k → J (a + 7 + b) q = laV Jb a b nv q) → gx_WG G X 5 (zh J) 25 [(0, .ref (gx_ad G a)), (1, .int (zI (n : Int))), (2, .int (zI nv)), (3, .int (zI (b : Int))), (4, .int (zI (k : Int)))] [] := by
  refine up_ind (fun k hi ih => ?_)
  intro J hJ hq
  have h8 := hP.1
  have hc := hP.ct hb
  have hfr : LFr Jb J a := fun x q h => hJ x q (by omega)
  obtain ⟨e1, e2, e3⟩ := cfr_eq hfr.c
  have hcJ : J (a + 15 + 2 * b) 1 = (hct Jb a b : Int) := by rw [hfr _ _ (by omega)]; exact hc.1
  refine gx_iload B dX4_lookAhead_25 rfl ?_
  refine gx_aload_n B dX4_lookAhead_27 rfl rfl ?_
  refine gx_getr (t := (a + 4)) B fl_X4_20 (kHand ha) (bHand ha) (rHand1 ha) dX4_lookAhead_28 ?_
  refine gx_iload_n B dX4_lookAhead_31 rfl rfl ?_
  refine z_aald b (a + 15 + 2 * b) B (kHg ha) (cHg ha) rfl (show b < 8 by omega) (by decide) (rHg ha (show b < 8 by omega)) dX4_lookAhead_32 ?_
  refine z_geti B fl_X4_72 (kGoods (gdH ha (show b < 8 by omega))) (bGoods (gdH ha (show b < 8 by omega))) (zGoods1 (gdH ha (show b < 8 by omega))) dX4_lookAhead_33 ?_
  refine z_icmp_ge (tgt := 79) B dX4_lookAhead_36 ⟨by omega, by omega⟩ ⟨by omega, by omega⟩ (by decide) (fun c36 => ?_) (fun c36 => ?_)
  · refine gx_sub [0, 1, 2, 3] rfl ?_
    exact kk J hJ (fun q hq1 => hq q (by omega))
  · refine gx_aload_n B dX4_lookAhead_39 rfl rfl ?_
    refine gx_getr (t := (a + 6)) B fl_X4_34 (kHand ha) (bHand ha) (rHand4 ha) dX4_lookAhead_40 ?_
    refine gx_iload_n B dX4_lookAhead_43 rfl rfl ?_
    refine z_aald2 b (a + 7 + b) B (kHj ha) (cHj ha) rfl (show b < 8 by omega) (by decide) (rHj ha (show b < 8 by omega)) dX4_lookAhead_44 ?_
    refine gx_iload B dX4_lookAhead_45 rfl ?_
    refine gx_iload_n B dX4_lookAhead_47 rfl rfl ?_
    refine z_iconst B dX4_lookAhead_48 ?_
    refine z_icmp_ne (tgt := 56) B dX4_lookAhead_49 ⟨by omega, by omega⟩ ⟨by omega, by omega⟩ (by decide) (fun c49 => ?_) (fun c49 => ?_)
    · obtain ⟨m, rfl⟩ : ∃ m : Nat, nv = (m : Int) := ⟨nv.toNat, by omega⟩
      refine gx_aload_n B dX4_lookAhead_56 rfl rfl ?_
      refine gx_aload_n B dX4_lookAhead_57 rfl rfl ?_
      refine gx_getr (t := (a + 4)) B fl_X4_20 (kHand ha) (bHand ha) (rHand1 ha) dX4_lookAhead_58 ?_
      refine gx_iload_n B dX4_lookAhead_61 rfl rfl ?_
      refine z_aald b (a + 15 + 2 * b) B (kHg ha) (cHg ha) rfl (show b < 8 by omega) (by decide) (rHg ha (show b < 8 by omega)) dX4_lookAhead_62 ?_
      refine gx_iload B dX4_lookAhead_63 rfl ?_
      refine z_callVi [.int (zI (k : Int))] B lv_X4_75 (mX3_placeOf hG (gdH ha (by omega)) J (k := k) (by omega)) (kGoods (gdH ha (show b < 8 by omega))) (bGoods (gdH ha (show b < 8 by omega))) rfl rfl (Nat.le_of_ble_eq_true rfl) (by decide) (by decide) dX4_lookAhead_65 (fun r2 J1 hJ1 => ?_)
      rw [show r2 = hpl J a b k from hJ1.1, hJ1.2]
      refine gx_iload_n B dX4_lookAhead_68 rfl rfl ?_
      have hv9 : (m : Int) < n ∧ (m : Int) ≠ b ∧ ∀ j, j < hct Jb a m → 0 ≤ htc Jb a m j ∧ htc Jb a m j ≤ 1000 := by
        rcases hv with h | h
        · omega
        · exact ⟨h.2.1, h.2.2.1, by simpa using h.2.2.2⟩
      have ht9 := hv9.2.2
      have hmb : m ≠ b := by omega
      have hmn : m < n := by omega
      have hce : hct J a m = hct Jb a m := by rw [e2]
      have htm : htc J a m = htc Jb a m := funext fun j => hJ _ _ (by omega)
      have hfe : minN (fun j => absZ (hpl J a b k - hpl J a m j) + htc J a m j) 1073741824 (hct J a m) = laV Jb a b (m : Int) k := by
        unfold laV
        rw [if_neg (by omega), Int.toNat_natCast, e3, htm, e2]
      refine z_callVi [.int (zI (hpl J a b k)), .int (zI (m : Int))] B lv_X4_79 (by have h9 := mX4_fewestOnward (l := gx_la X) hG ha J (m := m) (n := n) (hP.keep hfr.c) (by omega) (p := hpl J a b k) (hpl_le J a b k).1 (hpl_le J a b k).2 (fun j hj => by rw [htm]; exact ht9 j (by rw [← hce]; exact hj)); rw [hfe] at h9; exact h9) (kHand ha) (bHand ha) rfl rfl (Nat.le_of_ble_eq_true rfl) (by decide) (by decide) dX4_lookAhead_69 (fun r4 J3 hJ3 => ?_)
      rw [show r4 = laV Jb a b (m : Int) k from hJ3.1, hJ3.2]
      refine z_iast k B (kHjr ha (show b < 8 by omega)) (cHjr ha (show b < 8 by omega)) rfl (show k < 20 by omega) (by decide) dX4_lookAhead_72 (fun J1 hJ1 => ?_)
      refine z_iinc (fun v9 => [(0, .ref (gx_ad G a)), (1, .int (zI (n : Int))), (2, .int (zI (m : Int))), (3, .int (zI (b : Int))), (4, .int (zI v9))]) B dX4_lookAhead_73 rfl (by decide) rfl (fun _ => rfl) (fun v4 hv4 => ?_)
      rw [show v4 = ((k + 1 : Nat) : Int) from (by omega)]
      refine gx_goto (tgt := 25) B dX4_lookAhead_76 (by decide) ?_
      refine ih (by omega) J1 (fun x q h => by rw [hJ1, zup_ne (by omega)]; exact hJ x q h) (fun q hq1 => ?_)
      by_cases e : q = k
      · rw [e, hJ1, zup_self] <;> first | rfl | (unfold laV; rw [if_pos c49])
      · rw [hJ1, zup_ne (by omega)]; exact hq q (by omega)
    · refine z_iconst B dX4_lookAhead_52 ?_
      refine gx_goto (tgt := 72) B dX4_lookAhead_53 (by decide) ?_
      refine z_iast k B (kHjr ha (show b < 8 by omega)) (cHjr ha (show b < 8 by omega)) rfl (show k < 20 by omega) (by decide) dX4_lookAhead_72 (fun J1 hJ1 => ?_)
      refine z_iinc (fun v9 => [(0, .ref (gx_ad G a)), (1, .int (zI (n : Int))), (2, .int (zI nv)), (3, .int (zI (b : Int))), (4, .int (zI v9))]) B dX4_lookAhead_73 rfl (by decide) rfl (fun _ => rfl) (fun v4 hv4 => ?_)
      rw [show v4 = ((k + 1 : Nat) : Int) from (by omega)]
      refine gx_goto (tgt := 25) B dX4_lookAhead_76 (by decide) ?_
      refine ih (by omega) J1 (fun x q h => by rw [hJ1, zup_ne (by omega)]; exact hJ x q h) (fun q hq1 => ?_)
      by_cases e : q = k
      · rw [e, hJ1, zup_self] <;> first | rfl | (unfold laV; rw [if_pos c49])
      · rw [hJ1, zup_ne (by omega)]; exact hq q (by omega)


theorem la_step {s : Nat → Int} {ct : Nat → Nat} {pl t t' : Nat → Nat → Int} {n b : Nat} {nv : Int} (hn8 : n ≤ 8) (hb : b < n) (hct : ∀ x, x < n → 1 ≤ ct x) (hpl : ∀ x k, 0 ≤ pl x k ∧ pl x k ≤ 21) (hm : ∃ m, isNx s n (b + 1) m ∧ nv = if m = n then -1 else (m : Int)) (hT : ∀ x, b + 1 ≤ x → x < n → HTb s ct pl t n x)
    (ht' : ∀ x k, x ≠ b → t' x k = t x k) (hv : ∀ k, k < ct b → t' b k = if nv = -1 then 0 else minN (fun j => absZ (pl b k - pl nv.toNat j) + t nv.toNat j) 1073741824 (ct nv.toNat)) : ∀ x, b ≤ x → x < n → HTb s ct pl t' n x := by
  obtain ⟨m, hm1, hm2⟩ := hm
  intro x h1 h2
  by_cases e : x = b
  · subst e
    intro h0 k hk
    have hvk := hv k hk
    by_cases em : m = n
    · rw [if_pos em] at hm2
      rw [if_pos hm2] at hvk
      refine ⟨by rw [hvk]; omega, fun m' hm' => ⟨fun _ => hvk, fun hl => ?_⟩⟩
      have := isNx_uni hm1 hm'
      omega
    · rw [if_neg em] at hm2
      rw [if_neg (by omega), hm2, Int.toNat_natCast] at hvk
      have hmn : m < n := by have := hm1.2.1; omega
      have hmx : x + 1 ≤ m := hm1.1
      have hTm := hT m hmx hmn (hm1.2.2.2 hmn)
      have hmin := minN_is (f := fun j => absZ (pl x k - pl m j) + t m j) (i := 1073741824) (n := ct m) (by have := hct m hmn; omega) (fun j hj => by
        have h3 := (hTm j hj).1
        have h4 := absZ_le (x := pl x k - pl m j) (b := 21) (by have := hpl x k; have := hpl m j; omega) (by have := hpl x k; have := hpl m j; omega)
        show absZ (pl x k - pl m j) + t m j ≤ _
        have : (21 : Int) * ((n : Int) - m) ≤ 21 * n := by omega
        omega)
      rw [← hvk] at hmin
      have hmin' : isMinZ (ct m) (fun j => absZ (pl x k - pl m j) + t' m j) (t' x k) := by
        have ef : (fun j => absZ (pl x k - pl m j) + t' m j) = (fun j => absZ (pl x k - pl m j) + t m j) := funext fun j => by rw [ht' m j (by omega)]
        rw [ef]; exact hmin
      refine ⟨?_, fun m' hm' => ?_⟩
      · obtain ⟨j, hj, ej⟩ := hmin.1
        have h3 := (hTm j hj).1
        have h4 := absZ_le (x := pl x k - pl m j) (b := 21) (by have := hpl x k; have := hpl m j; omega) (by have := hpl x k; have := hpl m j; omega)
        have ej' : absZ (pl x k - pl m j) + t m j = t' x k := ej
        omega
      · have := isNx_uni hm1 hm'
        subst this
        exact ⟨fun q => by omega, fun _ => hmin'⟩
  · intro h0 k hk
    have := hT x (by omega) h2 h0 k hk
    rw [ht' x k (by omega)]
    refine ⟨this.1, fun m' hm' => ⟨(this.2 m' hm').1, fun hl => ?_⟩⟩
    have ef : (fun j => absZ (pl x k - pl m' j) + t' m' j) = (fun j => absZ (pl x k - pl m' j) + t m' j) := funext fun j => by rw [ht' m' j (by have := hm'.1; omega)]
    rw [ef]; exact (this.2 m' hm').2 hl

theorem lpLaO {G : gx_G} {X : gx_X} (hG : gx_OK G 76) (B : gx_B G X RX4 cX4_lookAhead 5 rmX4_lookAhead 76) {a n : Nat} (ha : isHand a) {J0 : zJ} (hP : HPre J0 a n) (Rt : gx_Rv G X (zpv (fun J' => (∀ x, x < n → HTb (hsz J0 a) (hct J0 a) (hpl J0 a) (htc J' a) n x) ∧ LFr J0 J' a))) : ∀ i : Nat, ∀ (J : zJ) (nv : Int), LFr J0 J a → (∀ x, i ≤ x → x < n → HTb (hsz J0 a) (hct J0 a) (hpl J0 a) (htc J a) n x) → (∃ m, isNx (hsz J0 a) n i m ∧ nv = if m = n then -1 else (m : Int)) → i ≤ n → gx_WG G X 5 (zh J) 6 [(0, .ref (gx_ad G a)), (1, .int (zI (n : Int))), (2, .int (zI nv)), (3, .int (zI ((i : Int) - 1)))] [] := by
  refine dn_ind (fun i ih => ?_)
  intro J nv hfr hT hm hi
  have h8 := hP.1
  obtain ⟨e1, e2, e3⟩ := cfr_eq hfr.c
  refine gx_iload_n B dX4_lookAhead_6 rfl rfl ?_
  refine z_if_lt (tgt := 87) B dX4_lookAhead_7 ⟨by omega, by omega⟩ (by decide) (fun c7 => ?_) (fun c7 => ?_)
  · refine z_ret B Rt dX4_lookAhead_87 ?_
    have : i = 0 := by omega
    subst this
    exact ⟨fun x hx => hT x (by omega) hx, hfr⟩
  · have hs2 := hP.2 (i - 1) (by omega)
    have es : J (a + 15 + 2 * (i - 1)) 2 = hsz J0 a (i - 1) := hfr _ _ (by omega)
    have hb9 : 0 ≤ hsz J0 a (i - 1) ∧ hsz J0 a (i - 1) ≤ 3 := ⟨hs2.2.2.1, hs2.2.2.2⟩
    refine gx_aload_n B dX4_lookAhead_10 rfl rfl ?_
    refine gx_getr (t := (a + 4)) B fl_X4_20 (kHand ha) (bHand ha) (rHand1 ha) dX4_lookAhead_11 ?_
    refine gx_iload_n B dX4_lookAhead_14 rfl rfl ?_
    refine z_aald (i - 1) (a + 15 + 2 * (i - 1)) B (kHg ha) (cHg ha) (by omega) (show i - 1 < 8 by omega) (by decide) (rHg ha (show i - 1 < 8 by omega)) dX4_lookAhead_15 ?_
    refine z_geti B fl_X4_61 (kGoods (gdH ha (show i - 1 < 8 by omega))) (bGoods (gdH ha (show i - 1 < 8 by omega))) (zGoods2 (gdH ha (show i - 1 < 8 by omega))) dX4_lookAhead_16 ?_
    refine z_if_le (tgt := 81) B dX4_lookAhead_19 ⟨by omega, by omega⟩ (by decide) (fun c19 => ?_) (fun c19 => ?_)
    · have hs0 : ¬ 0 < hsz J0 a (i - 1) := by omega
      refine z_iinc (fun v9 => [(0, .ref (gx_ad G a)), (1, .int (zI (n : Int))), (2, .int (zI nv)), (3, .int (zI v9))]) B dX4_lookAhead_81 rfl (by decide) rfl (fun _ => rfl) (fun v3 hv3 => ?_)
      rw [show v3 = ((i - 1 : Nat) : Int) - 1 from (by omega)]
      refine gx_goto (tgt := 6) B dX4_lookAhead_84 (by decide) ?_
      obtain ⟨m, hm1, hm2⟩ := hm
      refine ih (i - 1) (by omega) J nv hfr (fun x h1 h2 => ?_) ⟨m, ⟨by have := hm1.1; omega, hm1.2.1, fun x h1 h2 => ?_, hm1.2.2.2⟩, hm2⟩ (by omega)
      · by_cases e : x = i - 1
        · intro h0; rw [e] at h0; exact absurd h0 hs0
        · exact hT x (by omega) h2
      · by_cases e : x = i - 1
        · rw [e]; exact hs0
        · exact hm1.2.2.1 x (by omega) h2
    · have hs0 : 0 < hsz J0 a (i - 1) := by omega
      have hvv : nv = -1 ∨ (0 ≤ nv ∧ nv < n ∧ nv ≠ ((i - 1 : Nat) : Int) ∧ ∀ j, j < hct J a nv.toNat → 0 ≤ htc J a nv.toNat j ∧ htc J a nv.toNat j ≤ 1000) := by
        obtain ⟨m, hm1, hm2⟩ := hm
        by_cases em : m = n
        · rw [if_pos em] at hm2; exact Or.inl hm2
        · rw [if_neg em] at hm2
          have hmn : m < n := by have := hm1.2.1; omega
          have hmi : i ≤ m := hm1.1
          refine Or.inr ⟨by omega, by omega, by omega, fun j hj => ?_⟩
          rw [hm2, Int.toNat_natCast] at hj ⊢
          have h9 := (hT m hmi hmn (hm1.2.2.2 hmn) j (by rw [← e2]; exact hj)).1
          omega
      rw [show (i : Int) - 1 = ((i - 1 : Nat) : Int) by omega]
      have q0 := 0
      refine z_iconst B dX4_lookAhead_22 ?_
      refine z_istore (fun v9 => [(0, .ref (gx_ad G a)), (1, .int (zI (n : Int))), (2, .int (zI nv)), (3, .int (zI ((i - 1 : Nat) : Int))), (4, .int (zI v9))]) B dX4_lookAhead_23 (by decide) rfl (fun _ => rfl) (fun v4 hv4 => ?_)
      rw [show v4 = ((0 : Nat) : Int) from (by omega)]
      refine lpLaI hG B ha (Jb := J) (b := i - 1) (n := n) (hP.keep hfr.c) (by omega) (nv := nv) hvv ?_ 0 (by omega) J (fun _ _ _ => rfl) (fun q hq => absurd hq (Nat.not_lt_zero q))
      intro J1 hJ1 hV1
      refine gx_iload_n B dX4_lookAhead_79 rfl rfl ?_
      refine z_istore_n (fun v9 => [(0, .ref (gx_ad G a)), (1, .int (zI (n : Int))), (2, .int (zI v9)), (3, .int (zI ((i - 1 : Nat) : Int)))]) B dX4_lookAhead_80 rfl (by decide) rfl (fun _ => rfl) (fun v2 hv2 => ?_)
      rw [show v2 = ((i - 1 : Nat) : Int) from (by omega)]
      refine z_iinc (fun v9 => [(0, .ref (gx_ad G a)), (1, .int (zI (n : Int))), (2, .int (zI ((i - 1 : Nat) : Int))), (3, .int (zI v9))]) B dX4_lookAhead_81 rfl (by decide) rfl (fun _ => rfl) (fun v3 hv3 => ?_)
      rw [show v3 = ((i - 1 : Nat) : Int) - 1 from (by omega)]
      refine gx_goto (tgt := 6) B dX4_lookAhead_84 (by decide) ?_
      refine ih (i - 1) (by omega) J1 ((i - 1 : Nat) : Int) (fun x k h => by rw [hJ1 x k (by omega)]; exact hfr x k h) ?_ ⟨i - 1, ⟨Nat.le_refl _, by omega, fun x h1 h2 => by omega, fun _ => hs0⟩, by rw [if_neg (by omega)]⟩ (by omega)
      refine la_step (nv := nv) (t := htc J a) h8 (by omega) (fun x hx => by have := (hP.ct hx).2.1; exact this) (fun x k => hpl_le J0 a x k) (by rw [show i - 1 + 1 = i by omega]; exact hm) (by rw [show i - 1 + 1 = i by omega]; exact hT) (fun x k hx => hJ1 _ _ (by omega)) (fun k hk => ?_)
      have h9 := hV1 k (by rw [e2]; exact hk)
      unfold laV at h9
      rw [e3, e2] at h9
      exact h9

theorem mX4_lookAhead {l : Launch} {G : gx_G} (hG : gx_OK G 76) {a n : Nat} (ha : isHand a) (J : zJ) (hP : HPre J a n) : zMv l G yX4_lookAhead cX4_lookAhead 5 rmX4_lookAhead [.ref (gx_ad G a), .int (zI (n : Int))] J (fun J' => (∀ x, x < n → HTb (hsz J a) (hct J a) (hpl J a) (htc J' a) n x) ∧ LFr J J' a) := by
  refine gx_mv hG (by decide) (Nat.le_of_ble_eq_true rfl) (fun X hla B Rt => ?_)
  subst hla
  have B : gx_B G X RX4 cX4_lookAhead 5 rmX4_lookAhead 76 := B
  show gx_WG G X 5 (zh J) 0 [(0, .ref (gx_ad G a)), (1, .int (zI (n : Int)))] []
  refine z_iconst B dX4_lookAhead_0 ?_
  refine z_istore_n (fun v9 => [(0, .ref (gx_ad G a)), (1, .int (zI (n : Int))), (2, .int (zI v9))]) B dX4_lookAhead_1 rfl (by decide) rfl (fun _ => rfl) (fun v9 hv9 => ?_)
  rw [hv9]
  refine gx_iload_n B dX4_lookAhead_2 rfl rfl ?_
  refine z_iconst B dX4_lookAhead_3 ?_
  refine z_isub B dX4_lookAhead_4 ?_
  refine z_istore_n (fun v9 => [(0, .ref (gx_ad G a)), (1, .int (zI (n : Int))), (2, .int (zI (-1))), (3, .int (zI v9))]) B dX4_lookAhead_5 rfl (by decide) rfl (fun _ => rfl) (fun v9 hv9 => ?_)
  rw [hv9]
  exact lpLaO hG B ha hP Rt n J (-1) (fun _ _ _ => rfl) (fun x h1 h2 => by omega) ⟨n, ⟨Nat.le_refl _, Nat.le_refl _, fun x h1 h2 => by omega, fun h => by omega⟩, by rw [if_pos rfl]⟩ (Nat.le_refl _)

