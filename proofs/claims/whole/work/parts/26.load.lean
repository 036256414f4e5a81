
/-- a code whose three places are buttons *)-/
def dg (y : Int) : Prop := 0 ≤ y ∧ y / 16384 ≤ 71 ∧ y / 128 % 128 ≤ 71 ∧ y % 128 ≤ 71
theorem pkA_dg {x y z : Int} (hx : bt1 x) (hy : bt1 y) (hz : bt1 z) : dg (pkA x y z) := by
  obtain ⟨h1, h2⟩ := hx
  obtain ⟨h3, h4⟩ := hy
  obtain ⟨h5, h6⟩ := hz
  unfold dg pkA
  omega
def dgL (xs : List Int) : Prop := xs ≠ [] ∧ ∀ y ∈ xs, dg y
theorem gins_ne (c : Int) (xs : List Int) : gins c xs ≠ [] := by
  intro h
  have := gins_len c xs
  rw [h, List.length_nil] at this
  omega
theorem dgL_gins {c : Int} {xs : List Int} (hc : dg c) (h : ∀ y ∈ xs, dg y) : dgL (gins c xs) := ⟨gins_ne c xs, fun y hy => by
  rcases oi_mem (List.mem_of_mem_take hy) with e | e
  · rw [e]; exact hc
  · exact h y e⟩
theorem dgL_add {f z : Int} (hf : bt1 f) (hz : bt1 z) : ∀ (ls : List Int) {xs : List Int}, (∀ l ∈ ls, bt1 l) → (∀ y ∈ xs, dg y) → (∀ y ∈ addLows f z ls xs, dg y) ∧ (ls ≠ [] ∨ xs ≠ [] → addLows f z ls xs ≠ [])
  | [], xs, _, h => ⟨h, fun q => q.elim (fun q => absurd rfl q) (fun q => q)⟩
  | l :: ls, xs, hl, h => by
    have hd := dgL_gins (pkA_dg (hl l List.mem_cons_self) hf hz) h
    have := dgL_add hf hz ls (xs := gins (pkA l f z) xs) (fun q hq => hl q (List.mem_cons_of_mem _ hq)) hd.2
    exact ⟨this.1, fun _ => this.2 (Or.inr hd.1)⟩
theorem dgL_off {r f z : Int} {ls : List Int} {s : GSt} (hf : bt1 f) (hz : bt1 z) (hl : ∀ l ∈ ls, bt1 l) (hn : ls ≠ []) (h : dgL s.2 ∨ r < s.1) : dgL (offS r f z ls s).2 := by
  rcases Int.lt_trichotomy r s.1 with h1 | h1 | h1
  · rw [offS_lt hn h1]
    have := dgL_add hf hz ls (xs := []) hl (fun y hy => by cases hy)
    exact ⟨this.2 (Or.inl hn), this.1⟩
  · rw [offS_same h1]
    rcases h with h | h
    · have := dgL_add hf hz ls hl h.2
      exact ⟨this.2 (Or.inl hn), this.1⟩
    · omega
  · rw [offS_gt h1]
    rcases h with h | h
    · exact h
    · omega
theorem dgL_sgl {w base : Int} {ls : List Int} (hl : ∀ l ∈ ls, bt1 l) (hn : ls ≠ []) : ∀ (bs : List Nat) {s : GSt}, (∀ a ∈ bs, a < 72) → dgL s.2 → dgL (sglS w base ls s bs).2
  | [], _, _, h => h
  | a :: bs, s, hb, h => dgL_sgl hl hn bs (fun x hx => hb x (List.mem_cons_of_mem _ hx)) (dgL_off (by decide) (by have := hb a List.mem_cons_self; exact ⟨by omega, by omega⟩) hl hn (Or.inl h))
theorem dgL_in {w base : Int} {ls : List Int} (hl : ∀ l ∈ ls, bt1 l) (hn : ls ≠ []) {a : Nat} (ha : a < 72) : ∀ (bs : List Nat) {s : GSt}, (∀ a ∈ bs, a < 72) → dgL s.2 → dgL (inS w base ls a s bs).2
  | [], _, _, h => h
  | b :: bs, s, hb, h => dgL_in hl hn ha bs (fun x hx => hb x (List.mem_cons_of_mem _ hx)) (dgL_off ⟨by omega, by omega⟩ (by have := hb b List.mem_cons_self; exact ⟨by omega, by omega⟩) hl hn (Or.inl h))
theorem dgL_pr {w base : Int} {ls : List Int} (hl : ∀ l ∈ ls, bt1 l) (hn : ls ≠ []) : ∀ (bs : List Nat) {s : GSt}, (∀ a ∈ bs, a < 72) → dgL s.2 → dgL (prS w base ls s bs).2
  | [], _, _, h => h
  | a :: bs, s, hb, h => dgL_pr hl hn bs (fun x hx => hb x (List.mem_cons_of_mem _ hx)) (dgL_in hl hn (hb a List.mem_cons_self) bs (fun x hx => hb x (List.mem_cons_of_mem _ hx)) h)
theorem gF_dg (w base rows low : Int) : dgL (gF w base rows low).2 := dgL_pr (gls_bt _ _ _) (gls_ne _ _ _) _ (fun a ha => (cblN_mem ha).1) (dgL_sgl (gls_bt _ _ _) (gls_ne _ _ _) _ (fun a ha => (cblN_mem ha).1) (dgL_off (by decide) (by decide) (gls_bt _ _ _) (gls_ne _ _ _) (Or.inr (by have := rnk_le (w := w) (n := 0) (b := 0) (by omega) (by omega); show rnk w 0 0 < 1073741824; omega))))
theorem gsize_le (w base rows low : Int) : 0 ≤ gsize w base rows low ∧ gsize w base rows low ≤ 3 := by
  have h := gF_rkd w base rows low
  obtain ⟨h1, h2, h3⟩ := h
  unfold gsize bz
  split <;> omega
theorem gF_len (w base rows low : Int) : 1 ≤ (gF w base rows low).2.length ∧ (gF w base rows low).2.length ≤ 20 := by
  refine ⟨?_, (gF_ok w base rows low).1.2.1⟩
  have := (gF_dg w base rows low).1
  cases h : (gF w base rows low).2 with
  | nil => exact absurd h this
  | cons x t => simp
theorem dig_val {n c : Int} {i m : Nat} (h0 : 0 ≤ c) (h1 : c < 2097152) (hm : m ≤ 2) (hi : n - 1 - (i : Int) = m) : digZ n c i = c / 128 ^ m % 128 := by
  obtain ⟨k, rfl⟩ := Int.eq_ofNat_of_zero_le h0
  unfold digZ
  rw [hi]
  have e : zshr (k : Int) (7 * (m : Int)) = ((k / 2 ^ (7 * m) : Nat) : Int) := by
    have := zshr_nat (a := k) (k := 7 * m) (by omega) (by omega)
    rw [← this]; push_cast; rfl
  have hle : k / 2 ^ (7 * m) ≤ k := Nat.div_le_self _ _
  rw [e, zand127 (Int.natCast_nonneg _) (by have h9 : ((k / 2 ^ (7 * m) : Nat) : Int) ≤ k := by exact_mod_cast hle
                                            omega)]
  rw [show (2 : Nat) ^ (7 * m) = 128 ^ m by rw [Nat.pow_mul]]
  push_cast
  rfl
theorem dig_le71 {n c : Int} {i : Nat} (h0 : dg c) (h1 : c < 2097152) (hn : n ≤ 3) (hi : (i : Int) < n) : digZ n c i ≤ 71 := by
  obtain ⟨m, hm⟩ : ∃ m : Nat, n - 1 - (i : Int) = m := ⟨(n - 1 - (i : Int)).toNat, by omega⟩
  rw [dig_val h0.1 h1 (m := m) (by omega) hm]
  obtain ⟨d0, d1, d2, d3⟩ := h0
  match m, (show m ≤ 2 by omega) with
  | 0, _ => simpa using d3
  | 1, _ => simpa using d2
  | 2, _ => have : c / 128 ^ 2 % 128 = c / 16384 := by omega
            rw [this]; exact d1
/-- what stands in the cells of a beat's good settings -/
theorem GoodsAt.le {J : zJ} {g : Nat} {w base rows low : Int} (h : GoodsAt J g w base rows low) : 1 ≤ J g 1 ∧ J g 1 ≤ 20 ∧ 0 ≤ J g 2 ∧ J g 2 ≤ 3 ∧ ∀ k : Nat, (k : Int) < J g 1 → (0 ≤ J (g + 1) k ∧ J (g + 1) k < 2097152) ∧ ∀ i : Nat, (i : Int) < J g 2 → digZ (J g 2) (J (g + 1) k) i ≤ 71 := by
  obtain ⟨⟨h1, h2⟩, h3, h4, h5⟩ := h
  have hl := gF_len w base rows low
  have hz := gsize_le w base rows low
  refine ⟨by omega, by omega, by omega, by omega, fun k hk => ?_⟩
  have hk2 : k < (gF w base rows low).2.length := by omega
  have ho := okL_at (gF_ok w base rows low).1 hk2
  have hd : dg ((gF w base rows low).2.getD k 0) := by
    rw [List.getD_eq_getElem?_getD, List.getElem?_eq_getElem hk2]
    exact (gF_dg w base rows low).2 _ (List.getElem_mem hk2)
  rw [h2 k hk2]
  exact ⟨ho, fun i hi => dig_le71 hd ho.2 (by omega) hi⟩
theorem Lrn.pre {J : zJ} {a n : Nat} {base rows : Int} {ch lo : Nat → Int} (h : Lrn J a base rows n ch lo) (hn : n ≤ 8) : HPre J a n := ⟨hn, fun b hb => by have := (h.2 b hb).le; exact ⟨this.1, this.2.1, this.2.2.1, this.2.2.2.1⟩⟩
theorem HandOK.ch {J : zJ} {a n b : Nat} (h : HandOK J a n) (hP : HPre J a n) (hb : b < n) : (0 ≤ J (a + 5) b ∧ J (a + 5) b < 20) ∧ J (a + 5) b = (hch J a b : Int) ∧ (hch J a b : Int) < J (a + 15 + 2 * b) 1 := by
  have h1 := (h.2.1 b hb).1
  have h2 := (h.2.1 b hb).2
  have hc := hP.ct hb
  have e : J (a + 5) b = (hch J a b : Int) := by unfold hch; omega
  refine ⟨h1, e, ?_⟩
  by_cases hs : 0 < hsz J a b
  · have := (h2.2 hs).1; omega
  · have := h2.1 hs; omega
theorem orN_le {f : Nat → Int} : ∀ {n : Nat}, (∀ k, k < n → 0 ≤ f k ∧ f k ≤ 4095) → 0 ≤ orN f n ∧ orN f n ≤ 4095
  | 0, _ => by simp [orN]
  | n + 1, h => by
    have h1 := orN_le (n := n) (fun k hk => h k (by omega))
    have h2 := h n (by omega)
    exact zor_le h1.1 h1.2 h2.1 h2.2
theorem hnt_le {J : zJ} {a n b : Nat} {base rows : Int} {ch lo : Nat → Int} (h : Lrn J a base rows n ch lo) (hb0 : 0 ≤ base) (hb1 : base < 12) (hH : HandOK J a n) (hn : n ≤ 8) (hb : b < n) : 0 ≤ hnt J a b ∧ hnt J a b ≤ 4095 := by
  have hg := (h.2 b hb).le
  have hc := hH.ch (h.pre hn) hb
  unfold hnt
  refine orN_le (fun i hi => ?_)
  have hd := (hg.2.2.2.2 (hch J a b) hc.2.2).2 i (by omega)
  have hd0 := dig_le (J (a + 15 + 2 * b) 2) (J (a + 15 + 2 * b + 1) (hch J a b)) i
  have := h.1.1 (digZ (J (a + 15 + 2 * b) 2) (J (a + 15 + 2 * b + 1) (hch J a b)) i).toNat (by omega)
  rw [show a + 2 = a + 1 + 1 by omega, this]
  exact ntc_le hb0 hb1 (by omega)
/-- a desk's numbers are as they may be -/
def VD (J : zJ) (d n : Nat) : Prop := (0 ≤ J d 0 ∧ J d 0 < 12) ∧ (0 ≤ J d 1 ∧ J d 1 ≤ 63) ∧ (1 ≤ J d 2 ∧ J d 2 ≤ 3) ∧ (1 ≤ J d 3 ∧ J d 3 ≤ 400) ∧ (0 ≤ J d 4 ∧ J d 4 ≤ J d 3) ∧ DPre J d n ∧ ∀ b, b < n → (1 ≤ J (d + 3) b ∧ J (d + 3) b ≤ 8) ∧ (0 ≤ J (d + 4) b ∧ J (d + 4) b ≤ 3)
def useZ (J : zJ) (a : Nat) (b : Nat) : Int := J 4 b * J 1 2 * ones (hnt J a b)
theorem use_le {J : zJ} {n b : Nat} (h : VD J 1 n) (hb : b < n) (a : Nat) : 0 ≤ useZ J a b ∧ useZ J a b ≤ 300 := by
  obtain ⟨h1, h2, h3, h4, h5, h6, h7⟩ := h
  have hl := (h7 b hb).1
  have ho := ones_le (hnt J a b)
  have hl' : 1 ≤ J 4 b ∧ J 4 b ≤ 8 := hl
  have hp : 0 ≤ J 4 b * J 1 2 ∧ J 4 b * J 1 2 ≤ 24 := by
    have e : J 1 2 = 1 ∨ J 1 2 = 2 ∨ J 1 2 = 3 := by omega
    rcases e with e | e | e <;> rw [e] <;> omega
  unfold useZ
  refine ⟨Int.mul_nonneg hp.1 ho.1, ?_⟩
  calc J 4 b * J 1 2 * ones (hnt J a b) ≤ 24 * 12 := Int.mul_le_mul hp.2 ho.2 ho.1 (by omega)
    _ ≤ 300 := by omega


abbrev UFr (J J' : zJ) : Prop := ∀ x k, ¬ (x = 11 ∧ k = 2) → x ≠ 12 → x ≠ 13 → J' x k = J x k
theorem hnt_congr {J J' : zJ} {a b : Nat} (h2 : ∀ k, J' (a + 2) k = J (a + 2) k) (h5 : J' (a + 5) b = J (a + 5) b) (hg : ∀ k, J' (a + 15 + 2 * b) k = J (a + 15 + 2 * b) k) (hg1 : ∀ k, J' (a + 15 + 2 * b + 1) k = J (a + 15 + 2 * b + 1) k) : hnt J' a b = hnt J a b := by
  have e : hch J' a b = hch J a b := by unfold hch; rw [h5]
  unfold hnt
  rw [e, hg, hg1]
  congr 1
  funext i
  rw [h2]
theorem Lrn.keep {J J' : zJ} {a n : Nat} {base rows : Int} {ch lo : Nat → Int} (h : Lrn J a base rows n ch lo) (e : ∀ x k, (a + 1 ≤ x ∧ x ≤ a + 3 ∨ a + 15 ≤ x ∧ x ≤ a + 30) → J' x k = J x k) (hn : n ≤ 8) : Lrn J' a base rows n ch lo := ⟨h.1.keep (e _ _ (by omega)) (fun k => e _ _ (by omega)) (fun k => e _ _ (by omega)), fun b hb => (h.2 b hb).keep (fun k => e _ _ (by omega)) (fun k => e _ _ (by omega))⟩
theorem HandOK.keep {J J' : zJ} {a n : Nat} (h : HandOK J a n) (e : ∀ x k, a ≤ x ∧ x ≤ a + 30 → J' x k = J x k) (hn : n ≤ 8) : HandOK J' a n := by
  have e1 : ∀ b, b < 8 → hsz J' a b = hsz J a b := fun b hb => e _ _ (by omega)
  have e2 : ∀ b, b < 8 → hct J' a b = hct J a b := fun b hb => by unfold hct; rw [e _ _ (by omega)]
  have e3 : ∀ b, b < 8 → ∀ k, hpl J' a b k = hpl J a b k := fun b hb k => by unfold hpl; rw [e _ _ (by omega), e _ _ (by omega)]
  have e4 : ∀ b, b < 8 → ∀ k, htc J' a b k = htc J a b k := fun b hb k => e _ _ (by omega)
  have e5 : ∀ b, hch J' a b = hch J a b := fun b => by unfold hch; rw [e _ _ (by omega)]
  have e6 : ∀ b, b ≤ 8 → pvF (hsz J' a) b = pvF (hsz J a) b := by
    intro b
    induction b with
    | zero => intro _; rfl
    | succ b ih => intro hb; show (if 0 < hsz J' a b then _ else _) = (if 0 < hsz J a b then _ else _); rw [e1 b (by omega), ih (by omega)]
  have e7 : ∀ b, b < 8 → ∀ k, jf (hpl J' a) (hch J' a) (pvF (hsz J' a) b) b k = jf (hpl J a) (hch J a) (pvF (hsz J a) b) b k := by
    intro b hb k
    unfold jf
    rw [e6 b (by omega)]
    rcases pvF_lt (s := hsz J a) b with q | q
    · rw [if_pos q, if_pos q]
    · rw [if_neg (by omega), if_neg (by omega), e5, e3 _ (by omega), e3 b hb]
  have e8 : ∀ m, m ≤ 8 → ∀ b m', isNx (hsz J' a) m b m' ↔ isNx (hsz J a) m b m' := by
    intro m hm b m'
    constructor
    · rintro ⟨a1, a2, a3, a4⟩
      exact ⟨a1, a2, fun x h1 h2 => by rw [← e1 x (by omega)]; exact a3 x h1 h2, fun h1 => by rw [← e1 m' (by omega)]; exact a4 h1⟩
    · rintro ⟨a1, a2, a3, a4⟩
      exact ⟨a1, a2, fun x h1 h2 => by rw [e1 x (by omega)]; exact a3 x h1 h2, fun h1 => by rw [e1 m' (by omega)]; exact a4 h1⟩
  obtain ⟨h1, h2, h3⟩ := h
  refine ⟨fun x hx => ?_, fun b hb => ⟨?_, ?_, ?_⟩, ?_⟩
  · intro h0 k hk
    rw [e1 x (by omega)] at h0
    rw [e2 x (by omega)] at hk
    have h4 := h1 x hx h0 k hk
    rw [e4 x (by omega)]
    refine ⟨h4.1, fun m hm => ?_⟩
    have h5 := h4.2 m ((e8 n hn _ _).mp hm)
    refine ⟨h5.1, fun hmn => ?_⟩
    have h6 := h5.2 hmn
    rw [e2 m (by omega)]
    have ef : (fun j => absZ (hpl J' a x k - hpl J' a m j) + htc J' a m j) = (fun j => absZ (hpl J a x k - hpl J a m j) + htc J a m j) := funext fun j => by rw [e3 x (by omega), e3 m (by omega), e4 m (by omega)]
    rw [ef]; exact h6
  · rw [e _ _ (by omega)]; exact (h2 b hb).1
  · rw [e1 b (by omega), e5]; exact (h2 b hb).2.1
  · rw [e1 b (by omega), e5, e2 b (by omega)]
    intro h0
    have h4 := (h2 b hb).2.2 h0
    have ef : (fun k => jf (hpl J' a) (hch J' a) (pvF (hsz J' a) b) b k + htc J' a b k) = (fun k => jf (hpl J a) (hch J a) (pvF (hsz J a) b) b k + htc J a b k) := funext fun k => by rw [e7 b (by omega), e4 b (by omega)]
    rw [ef]; exact h4
  · rw [e _ _ (by omega), h3]
    have : ∀ m, m ≤ n → jsum (hsz J a) (hpl J a) (hch J a) m = jsum (hsz J' a) (hpl J' a) (hch J' a) m := by
      intro m
      induction m with
      | zero => intro _; rfl
      | succ m ih =>
        intro hm
        show jsum _ _ _ m + (if 0 < hsz J a m then jf (hpl J a) (hch J a) (pvF (hsz J a) m) m (hch J a m) else 0) = jsum _ _ _ m + (if 0 < hsz J' a m then jf (hpl J' a) (hch J' a) (pvF (hsz J' a) m) m (hch J' a m) else 0)
        rw [ih (by omega), e1 m (by omega), e5, e7 m (by omega)]
    exact this n (Nat.le_refl _)

theorem lpLoad {G : gx_G} {X : gx_X} (hG : gx_OK G 76) (B : gx_B G X RX0 cX0_load 4 rmX0_load 76) {J0 : zJ} {n : Nat} (hV : VD J0 1 n) (hL : Lrn J0 14 (J0 1 0) (J0 1 1) n (J0 2) (J0 3)) (hH : HandOK J0 14 n) (Rt : gx_Rv G X (zpv (fun J' => J' 11 2 = (n : Int) ∧ (∀ b, b < n → J' 12 b = useZ J0 14 b ∧ J' 13 b = J0 5 b) ∧ UFr J0 J'))) : ∀ i : Nat, i ≤ n → ∀ (J : zJ), J 11 2 = (n : Int) → (∀ b, b < i → J 12 b = useZ J0 14 b ∧ J 13 b = J0 5 b) → UFr J0 J → gx_WG G X 4 (zh J) 10 [(0, .ref (gx_ad G 11)), (1, .ref (gx_ad G 1)), (2, .ref (gx_ad G 14)), (3, .int (zI (i : Int)))] [] := by
  refine up_ind (fun i hi ih => ?_)
  intro J h2 hu hfr
  have h8 := hV.2.2.2.2.2.1.2.1
  have hL1 : Lrn J 14 (J0 1 0) (J0 1 1) n (J0 2) (J0 3) := hL.keep (fun x k h => hfr x k (by omega) (by omega) (by omega)) h8
  have hH1 : HandOK J 14 n := hH.keep (fun x k h => hfr x k (by omega) (by omega) (by omega)) h8
  refine gx_iload_n B dX0_load_10 rfl rfl ?_
  refine gx_aload_n B dX0_load_11 rfl rfl ?_
  refine z_geti B fl_X0_18 rfl (by decide) rfl dX0_load_12 ?_
  refine z_icmp_ge (tgt := 62) B dX0_load_15 ⟨by omega, by omega⟩ ⟨by omega, by omega⟩ (by decide) (fun c15 => ?_) (fun c15 => ?_)
  · refine z_ret B Rt dX0_load_62 ?_
    obtain rfl : i = n := by omega
    exact ⟨h2, hu, hfr⟩
  · have hg := (hL1.2 i (by omega)).le
    have hc := hH1.ch (hL1.pre h8) (b := i) (by omega)
    have hle := hnt_le hL1 hV.1.1 hV.1.2 hH1 h8 (b := i) (by omega)
    have en : hnt J 14 i = hnt J0 14 i := hnt_congr (fun k => hfr _ _ (by omega) (by omega) (by omega)) (hfr _ _ (by omega) (by omega) (by omega)) (fun k => hfr _ _ (by omega) (by omega) (by omega)) (fun k => hfr _ _ (by omega) (by omega) (by omega))
    refine gx_aload_n B dX0_load_18 rfl rfl ?_
    refine gx_getr (t := 12) B fl_X0_9 rfl (by decide) rfl dX0_load_19 ?_
    refine gx_iload_n B dX0_load_22 rfl rfl ?_
    refine gx_aload_n B dX0_load_23 rfl rfl ?_
    refine gx_getr (t := 4) B fl_X0_34 (kDesk pD1) (bDesk pD1) (rDesk8 pD1) dX0_load_24 ?_
    refine gx_iload_n B dX0_load_27 rfl rfl ?_
    refine z_iald i B (aDesk3 pD1) (cDesk3 pD1) rfl (show i < 8 by omega) (by decide) dX0_load_28 ?_
    refine gx_aload_n B dX0_load_29 rfl rfl ?_
    refine z_geti B fl_X0_37 (kDesk pD1) (bDesk pD1) (zDesk2 pD1) dX0_load_30 ?_
    refine z_imul B dX0_load_33 ?_
    refine gx_aload_n B dX0_load_34 rfl rfl ?_
    refine gx_iload_n B dX0_load_35 rfl rfl ?_
    refine z_callVi [.int (zI (i : Int))] B lv_X0_40 (mX4_notesOf hG pH0 J (b := i) (by omega) hg.2.2.1 hg.2.2.2.1 hc.1.1 hc.1.2 (fun q hq => (hg.2.2.2.2 (hch J 14 i) hc.2.2).2 q hq)) (kHand pH0) (bHand pH0) rfl rfl (Nat.le_of_ble_eq_true rfl) (by decide) (by decide) dX0_load_36 (fun r2 J1 hJ1 => ?_)
    rw [show r2 = hnt J 14 i from hJ1.1, hJ1.2]
    refine z_callSi [.int (zI (hnt J 14 i))] B ls_X0_46 (mJ6_bitCount hG J (x := hnt J 14 i)) rfl rfl (Nat.le_of_ble_eq_true rfl) (by decide) (by decide) dX0_load_39 (fun r4 J3 hJ3 => ?_)
    rw [show r4 = bcZ (hnt J 14 i) from hJ3.1, hJ3.2]
    rw [show bcZ (hnt J 14 i) = ones (hnt J 14 i) from (bc_eq hle.1 hle.2)]
    refine z_imul B dX0_load_42 ?_
    refine z_iast i B rfl (by decide) rfl (show i < 8 by omega) (by decide) dX0_load_43 (fun JU hJU => ?_)
    refine gx_aload_n B dX0_load_44 rfl rfl ?_
    refine gx_getr (t := 13) B fl_X0_15 rfl (by decide) rfl dX0_load_45 ?_
    refine gx_iload_n B dX0_load_48 rfl rfl ?_
    refine gx_aload_n B dX0_load_49 rfl rfl ?_
    refine gx_getr (t := 5) B fl_X0_51 (kDesk pD1) (bDesk pD1) (rDesk9 pD1) dX0_load_50 ?_
    refine gx_iload_n B dX0_load_53 rfl rfl ?_
    refine z_iald i B (aDesk4 pD1) (cDesk4 pD1) rfl (show i < 8 by omega) (by decide) dX0_load_54 ?_
    refine z_iast i B rfl (by decide) rfl (show i < 8 by omega) (by decide) dX0_load_55 (fun JM hJM => ?_)
    refine z_iinc (fun v9 => [(0, .ref (gx_ad G 11)), (1, .ref (gx_ad G 1)), (2, .ref (gx_ad G 14)), (3, .int (zI v9))]) B dX0_load_56 rfl (by decide) rfl (fun _ => rfl) (fun v3 hv3 => ?_)
    rw [show v3 = ((i + 1 : Nat) : Int) from (by omega)]
    refine gx_goto (tgt := 10) B dX0_load_59 (by decide) ?_
    refine ih (by omega) JM (by rw [hJM, zup_ne (by omega), hJU, zup_ne (by omega)]; exact h2) (fun b hb => ?_) (fun x k q1 q2 q3 => by rw [hJM, zup_ne (by omega), hJU, zup_ne (by omega)]; exact hfr x k q1 q2 q3)
    by_cases e : b = i
    · subst e
      constructor
      · rw [hJM, zup_ne (by omega), hJU, zup_self, en, hfr 4 b (by omega) (by omega) (by omega), hfr 1 2 (by omega) (by omega) (by omega)]; rfl
      · rw [hJM, zup_self, hJU, zup_ne (by omega), hfr 5 b (by omega) (by omega) (by omega)]
    · rw [hJM, zup_ne (by omega), zup_ne (by omega), hJU, zup_ne (by omega), zup_ne (by omega)]; exact hu b (by omega)

theorem mX0_load {l : Launch} {G : gx_G} (hG : gx_OK G 76) (J : zJ) {n : Nat} (hV : VD J 1 n) (hL : Lrn J 14 (J 1 0) (J 1 1) n (J 2) (J 3)) (hH : HandOK J 14 n) : zMv l G yX0_load cX0_load 4 rmX0_load [.ref (gx_ad G 11), .ref (gx_ad G 1), .ref (gx_ad G 14)] J (fun J' => J' 11 2 = (n : Int) ∧ (∀ b, b < n → J' 12 b = useZ J 14 b ∧ J' 13 b = J 5 b) ∧ UFr J J') := by
  refine gx_mv hG (by decide) (Nat.le_of_ble_eq_true rfl) (fun X hla B Rt => ?_)
  subst hla
  have B : gx_B G X RX0 cX0_load 4 rmX0_load 76 := B
  show gx_WG G X 4 (zh J) 0 [(0, .ref (gx_ad G 11)), (1, .ref (gx_ad G 1)), (2, .ref (gx_ad G 14))] []
  refine gx_aload_n B dX0_load_0 rfl rfl ?_
  refine gx_aload_n B dX0_load_1 rfl rfl ?_
  refine z_geti B fl_X0_31 (kDesk pD1) (bDesk pD1) (zDesk5 pD1) dX0_load_2 ?_
  refine z_puti B fw_X0_18 rfl (by decide) rfl dX0_load_5 (fun J1 hJ1 => ?_)
  refine z_iconst B dX0_load_8 ?_
  refine z_istore_n (fun v9 => [(0, .ref (gx_ad G 11)), (1, .ref (gx_ad G 1)), (2, .ref (gx_ad G 14)), (3, .int (zI v9))]) B dX0_load_9 rfl (by decide) rfl (fun _ => rfl) (fun v3 hv3 => ?_)
  rw [show v3 = ((0 : Nat) : Int) from (by omega)]
  exact lpLoad hG B hV hL hH Rt 0 (by omega) J1 (by rw [hJ1, zup_self]; exact hV.2.2.2.2.2.1.1) (fun b hb => by omega) (fun x k q1 q2 q3 => by rw [hJ1, zup_ne (by omega)])

