/-! the class's good settings against the reference's; one hand -/
def SG (J : zJ) (g : Nat) (J' : zJ) (b : Nat) : Prop := J' 80 b = J g 3 ∧ J' 81 b = J g 4 ∧ J' 82 b = J g 2 ∧ J' 83 b = J g 1 ∧ ∀ k : Nat, (k : Int) < J g 1 → (0 ≤ J (g + 1) k ∧ J (g + 1) k < 128 ^ (J g 2).toNat) ∧ ∀ i : Nat, (i : Int) < J g 2 → digZ (J g 2) (J (g + 1) k) i = J' 84 (60 * b + 3 * k + i) ∧ J' 84 (60 * b + 3 * k + i) = J (g + 1) k / 128 ^ ((J g 2).toNat - 1 - i) % 128
theorem sg_of {J J' : zJ} {g b : Nat} {w base rows low : Int} (hG : GoodsAt J g w base rows low) (hM : MG J' b (gMr w base rows low) (gMc w base rows low) (gMm w base rows low)) (h0 : 0 ≤ base) (h1 : base < 12) (h3 : low ≤ 11) : SG J g J' b := by
  obtain ⟨e1, e2, e3⟩ := gM_all (w := w) (rows := rows) h0 h1 h3
  rw [e1, e2, e3] at hM
  have hl := gF_len w base rows low
  have hz := gsize_le w base rows low
  obtain ⟨⟨g1, g2⟩, g3, g4, g5⟩ := hG
  rcases hM with ⟨h, _⟩ | ⟨r1, ⟨r2, r3, r4⟩, m0, m1, m2, m3, m4⟩
  · rw [h] at hl
    exact absurd hl.1 (by decide)
  · have es : (gF w base rows low).1 % 16 + bz (hasL base rows low) = J g 2 := g3.symm
    rw [es] at m2 m4 r4
    rw [← g3] at hz
    refine ⟨by rw [m0, g4]; rfl, by rw [m1, g5]; rfl, m2, by rw [m3, g1], fun k hk => ?_⟩
    have hk2 : k < (gF w base rows low).2.length := by omega
    have ho := okL_at r2 hk2
    have ek := g2 k hk2
    have hm : (gF w base rows low).2.getD k 0 ∈ (gF w base rows low).2 := by
      rw [List.getD_eq_getElem?_getD, List.getElem?_eq_getElem hk2]
      exact List.getElem_mem hk2
    refine ⟨⟨by rw [ek]; exact ho.1, by rw [ek]; exact r4 _ hm⟩, fun i hi => ?_⟩
    have h9 := m4 k hk2 i (by omega)
    rw [← ek] at h9 ho
    refine ⟨?_, h9⟩
    rw [h9]
    exact dig_val ho.1 ho.2 (by omega) (by omega)
theorem isNx_congr {s s' : Nat → Int} {n b m : Nat} (hs : ∀ x, x < n → s x = s' x) (h : isNx s n b m) : isNx s' n b m :=
  ⟨h.1, h.2.1, fun x h1 h2 => by rw [← hs x (by have := h.2.1; omega)]; exact h.2.2.1 x h1 h2, fun q => by rw [← hs m q]; exact h.2.2.2 q⟩
theorem pvF_congr {s s' : Nat → Int} : ∀ {n : Nat}, (∀ x, x < n → s x = s' x) → pvF s n = pvF s' n
  | 0, _ => rfl
  | n + 1, h => by
    show (if 0 < s n then (n : Int) else pvF s n) = (if 0 < s' n then (n : Int) else pvF s' n)
    rw [h n (by omega), pvF_congr (fun x hx => h x (by omega))]
theorem ht_uni {s s' : Nat → Int} {ct ct' : Nat → Nat} {pl pl' t t' : Nat → Nat → Int} {n : Nat} (hs : ∀ b, b < n → s b = s' b) (hc : ∀ b, b < n → ct b = ct' b) (hp : ∀ b, b < n → 0 < s b → ∀ k, k < ct b → pl b k = pl' b k) (hT : ∀ b, b < n → HTb s ct pl t n b) (hT' : ∀ b, b < n → HTb s' ct' pl' t' n b) : ∀ b, b < n → 0 < s b → ∀ k, k < ct b → t b k = t' b k := by
  have key : ∀ d b, n ≤ b + d → b < n → 0 < s b → ∀ k, k < ct b → t b k = t' b k := by
    intro d
    induction d with
    | zero => intro b h1 h2; omega
    | succ d ih =>
      intro b h1 h2 h0 k hk
      obtain ⟨m, hm⟩ := isNx_ex s (n := n) (b + 1) (by omega)
      have a1 := (hT b h2 h0 k hk).2 m hm
      have a2 := (hT' b h2 (by rw [← hs b h2]; exact h0) k (by rw [← hc b h2]; exact hk)).2 m (isNx_congr hs hm)
      by_cases e : m = n
      · rw [a1.1 e, a2.1 e]
      · have hmn : m < n := by have := hm.2.1; omega
        have hbm := hm.1
        have hsm := hm.2.2.2 hmn
        have u1 := a1.2 hmn
        have u2 := a2.2 hmn
        rw [← hc m hmn] at u2
        refine isMin_uni (fun j hj => ?_) u1 u2
        show absZ (pl b k - pl m j) + t m j = absZ (pl' b k - pl' m j) + t' m j
        rw [hp b h2 h0 k hk, hp m hmn hsm j hj, ih m (by omega) hmn hsm j hj]
  intro b hb
  exact key n b (by omega) hb
theorem hc_uni {s s' : Nat → Int} {ct ct' : Nat → Nat} {pl pl' t t' : Nat → Nat → Int} {c c' : Nat → Nat} {n : Nat} (hs : ∀ b, b < n → s b = s' b) (hc : ∀ b, b < n → ct b = ct' b) (hp : ∀ b, b < n → 0 < s b → ∀ k, k < ct b → pl b k = pl' b k) (ht : ∀ b, b < n → 0 < s b → ∀ k, k < ct b → t b k = t' b k) (hC : ∀ b, b < n → HCb s ct pl t c b) (hC' : ∀ b, b < n → HCb s' ct' pl' t' c' b) : ∀ b, b < n → c b = c' b := by
  have key : ∀ d b, b < d → b < n → c b = c' b := by
    intro d
    induction d with
    | zero => intro b h1; omega
    | succ d ih =>
      intro b h1 h2
      by_cases h0 : 0 < s b
      · have a1 := (hC b h2).2 h0
        have a2 := (hC' b h2).2 (by rw [← hs b h2]; exact h0)
        rw [← hc b h2] at a2
        refine isFst_uni (fun k hk => ?_) a1 a2
        show jf pl c (pvF s b) b k + t b k = jf pl' c' (pvF s' b) b k + t' b k
        rw [ht b h2 h0 k hk, ← pvF_congr (fun x hx => hs x (by omega))]
        congr 1
        rcases pvF_lt (s := s) b with e | ⟨q1, q2, q3⟩
        · rw [jf_neg e, jf_neg e]
        · obtain ⟨p, hpp⟩ : ∃ p : Nat, pvF s b = (p : Int) := ⟨(pvF s b).toNat, by omega⟩
          rw [hpp, Int.toNat_natCast] at q3
          rw [hpp] at q2 ⊢
          rw [jf_nat, jf_nat, hp b h2 h0 k hk, ← ih p (by omega) (by omega)]
          have := ((hC p (by omega)).2 q3).1
          rw [hp p (by omega) q3 _ this]
      · rw [(hC b h2).1 h0, (hC' b h2).1 (by rw [← hs b h2]; exact h0)]
  intro b hb
  exact key (b + 1) b (by omega) hb
theorem js_uni {s s' : Nat → Int} {ct : Nat → Nat} {pl pl' t : Nat → Nat → Int} {c c' : Nat → Nat} {n : Nat} (hs : ∀ b, b < n → s b = s' b) (hp : ∀ b, b < n → 0 < s b → ∀ k, k < ct b → pl b k = pl' b k) (hC : ∀ b, b < n → HCb s ct pl t c b) (hcc : ∀ b, b < n → c b = c' b) : ∀ i, i ≤ n → jsum s pl c i = jsum s' pl' c' i
  | 0, _ => rfl
  | i + 1, h => by
    show jsum s pl c i + (if 0 < s i then jf pl c (pvF s i) i (c i) else 0) = jsum s' pl' c' i + (if 0 < s' i then jf pl' c' (pvF s' i) i (c' i) else 0)
    rw [js_uni hs hp hC hcc i (by omega), hs i (by omega)]
    congr 1
    by_cases h0 : 0 < s' i
    · have h0' : 0 < s i := by rw [hs i (by omega)]; exact h0
      rw [if_pos h0, if_pos h0, ← pvF_congr (fun x hx => hs x (by omega))]
      have hci := ((hC i (by omega)).2 h0').1
      rcases pvF_lt (s := s) i with e | ⟨q1, q2, q3⟩
      · rw [jf_neg e, jf_neg e]
      · obtain ⟨p, hpp⟩ : ∃ p : Nat, pvF s i = (p : Int) := ⟨(pvF s i).toNat, by omega⟩
        rw [hpp, Int.toNat_natCast] at q3
        rw [hpp] at q2 ⊢
        have hcp := ((hC p (by omega)).2 q3).1
        rw [jf_nat, jf_nat, ← hcc i (by omega), ← hcc p (by omega), hp i (by omega) h0' _ hci, hp p (by omega) q3 _ hcp]
    · rw [if_neg h0, if_neg h0]
/-- one hand -/
theorem hand_tie {J J' J0 : zJ} {a n : Nat} (hSG : ∀ b, b < n → SG J (a + 15 + 2 * b) J' b) (hP : HPre J a n) (hH : HandOK J a n) (hF : HFound J0 J' n) : (∀ b, b < n → J (a + 5) b = J' 87 b) ∧ J a 3 = J' 76 13 := by
  have hs : ∀ b, b < n → hsz J a b = J' 82 b := fun b hb => (hSG b hb).2.2.1.symm
  have hc : ∀ b, b < n → hct J a b = mct J' b := fun b hb => by unfold hct mct; rw [(hSG b hb).2.2.2.1]
  have hp : ∀ b, b < n → 0 < hsz J a b → ∀ k, k < hct J a b → hpl J a b k = mpl J' b k := fun b hb h0 k hk => by
    have hP2 := hP.ct hb
    have h9 := (((hSG b hb).2.2.2.2 k (by omega)).2 0 h0).1
    unfold hpl mpl
    rw [← Nat.add_zero (60 * b + 3 * k), ← h9]
    rfl
  have ht := ht_uni hs hc hp hH.1 (fun b hb => (hF.1 b hb).2)
  have hcu := hc_uni hs hc hp ht (fun b hb => (hH.2.1 b hb).2) (fun b hb => hF.2.2.1 b hb)
  refine ⟨fun b hb => ?_, ?_⟩
  · have h1 := hcu b hb
    have h2 := (hH.2.1 b hb).1
    have h3 := (hF.bn hb).2
    unfold hch mch at h1
    omega
  · rw [hH.2.2, hF.2.2.2]
    exact js_uni hs hp (fun b hb => (hH.2.1 b hb).2) hcu n (Nat.le_refl _)
/-- every button of a good setting is there -/
def QT (rows : Int) (lc : Int) (r y : Int) : Prop := ∃ l one two cn : Int, y = pkA l one two ∧ r % 16 = cn ∧ bz (0 ≤ l) = lc ∧ bt1 l ∧ cmb one two cn ∧ (0 ≤ l → thr rows l) ∧ (0 ≤ one → thr rows one) ∧ (0 ≤ two → thr rows two)
theorem QT_step {rows lc : Int} {s : GSt} {q : Int × Int} (h : ∀ y ∈ s.2, QT rows lc s.1 y) (hq : QT rows lc q.1 q.2) : ∀ y ∈ (gstep s q).2, QT rows lc (gstep s q).1 y := by
  intro y hy
  unfold gstep at hy ⊢
  split
  · rename_i h1
    rw [if_pos h1] at hy
    rw [List.mem_singleton.mp hy]; exact hq
  · rename_i h1
    rw [if_neg h1] at hy
    split
    · rename_i h2
      rw [if_pos h2] at hy
      rcases oi_mem (List.mem_of_mem_take hy) with e | e
      · rw [e]; show QT rows lc s.1 q.2; rw [← h2]; exact hq
      · exact h y e
    · rename_i h2
      rw [if_neg h2] at hy
      exact h y hy
theorem QT_fold {rows lc : Int} : ∀ (qs : List (Int × Int)) (s : GSt), (∀ y ∈ s.2, QT rows lc s.1 y) → (∀ q ∈ qs, QT rows lc q.1 q.2) → ∀ y ∈ (qs.foldl gstep s).2, QT rows lc (qs.foldl gstep s).1 y
  | [], _, h, _ => h
  | q :: qs, s, h, hq => QT_fold qs (gstep s q) (QT_step h (hq q List.mem_cons_self)) (fun x hx => hq x (List.mem_cons_of_mem _ hx))
def KT (rows : Int) (q : KQ) : Prop := ∃ cn : Int, q.1 % 16 = cn ∧ ((q.2.1 = -1 ∧ q.2.2 = -1 ∧ cn = 0) ∨ (∃ a : Nat, a < 72 ∧ thr rows a ∧ q.2.1 = -1 ∧ q.2.2 = a ∧ cn = 1) ∨ (∃ a b : Nat, a < 72 ∧ thr rows a ∧ b < 72 ∧ thr rows b ∧ q.2.1 = a ∧ q.2.2 = b ∧ cn = 2))
theorem rnk_mod {w n b : Int} (h0 : 0 ≤ b) (h1 : b ≤ 2) : rnk w n b % 16 = b := by unfold rnk; omega
theorem kPr_t {w base rows : Int} : ∀ bs : List Nat, (∀ a ∈ bs, a < 72 ∧ thr rows a) → ∀ q ∈ kPr w base bs, KT rows q
  | [], _, q, hq => by cases hq
  | a :: bs, h, q, hq => by
    unfold kPr at hq
    rcases List.mem_append.mp hq with h1 | h1
    · obtain ⟨b, hb, rfl⟩ := List.mem_map.mp h1
      have ha := h a List.mem_cons_self
      have hb2 := h b (List.mem_cons_of_mem _ hb)
      exact ⟨2, rnk_mod (by omega) (by omega), Or.inr (Or.inr ⟨a, b, ha.1, ha.2, hb2.1, hb2.2, rfl, rfl, rfl⟩)⟩
    · exact kPr_t bs (fun x hx => h x (List.mem_cons_of_mem _ hx)) q h1
theorem gls_t {base rows low : Int} (h0 : 0 ≤ base) (h1 : base < 12) (h3 : low ≤ 11) : ∀ l ∈ gls base rows low, (0 ≤ l → thr rows l) ∧ bz (0 ≤ l) = bz (hasL base rows low) := by
  by_cases hl : low < 0
  · obtain ⟨e1, e2⟩ := gls_neg (base := base) (rows := rows) hl
    intro l h
    rw [e1] at h
    rw [List.mem_singleton.mp h]
    exact ⟨fun q => absurd q (by decide), by rw [bz_0.mpr e2]; rfl⟩
  · obtain ⟨bs, rfl⟩ := Int.eq_ofNat_of_zero_le h0
    obtain ⟨lw, rfl⟩ := Int.eq_ofNat_of_zero_le (show 0 ≤ low by omega)
    have hg := gls_lwN (rows := rows) (show bs < 12 by omega) (show lw < 12 by omega)
    have hh := hasL_lwN (rows := rows) (show bs < 12 by omega) (show lw < 12 by omega)
    intro l h
    rw [hg] at h
    by_cases e : lwN bs lw rows = []
    · rw [if_pos e] at h
      rw [List.mem_singleton.mp h]
      exact ⟨fun q => absurd q (by decide), by rw [bz_0.mpr (fun q => hh.mp q e)]; rfl⟩
    · rw [if_neg e] at h
      obtain ⟨b, hb, rfl⟩ := List.mem_map.mp h
      refine ⟨fun _ => ?_, by rw [bz_1.mpr (hh.mpr e), bz_1.mpr (by omega)]⟩
      rcases lwN_mem.mp hb with ⟨q1, rfl⟩ | ⟨q1, rfl⟩
      · exact (thr6 (lwc_lt _ _ _) (by omega)).mpr q1
      · exact (thr6 (lwc_lt _ _ _) (by omega)).mpr q1
theorem QT_of {rows lc l : Int} {q : KQ} (hq : KT rows q) (hl : bt1 l) (ht : 0 ≤ l → thr rows l) (hc : bz (0 ≤ l) = lc) : QT rows lc (kpr l q).1 (kpr l q).2 := by
  obtain ⟨cn, h1, h2⟩ := hq
  rcases h2 with ⟨a1, a2, a3⟩ | ⟨a, b1, b2, a1, a2, a3⟩ | ⟨a, b, b1, b2, b3, b4, a1, a2, a3⟩
  · refine ⟨l, -1, -1, cn, ?_, h1, hc, hl, Or.inl ⟨rfl, rfl, a3⟩, ht, fun q => absurd q (by decide), fun q => absurd q (by decide)⟩
    unfold kpr; rw [a1, a2]
  · refine ⟨l, a, -1, cn, ?_, h1, hc, hl, Or.inr (Or.inl ⟨by omega, rfl, a3⟩), ht, fun _ => b2, fun q => absurd q (by decide)⟩
    unfold kpr; rw [a1, a2]; exact (pk_sw l a).symm
  · refine ⟨l, a, b, cn, ?_, h1, hc, hl, Or.inr (Or.inr ⟨by omega, by omega, a3⟩), ht, fun _ => b2, fun _ => b4⟩
    unfold kpr; rw [a1, a2]
theorem gF_QT {w base rows low : Int} (h0 : 0 ≤ base) (h1 : base < 12) (h3 : low ≤ 11) : ∀ y ∈ (gF w base rows low).2, QT rows (bz (hasL base rows low)) (gF w base rows low).1 y := by
  rw [gF_fold, kst_flat]
  refine QT_fold _ _ (fun y hy => by cases hy) (fun q hq => ?_)
  obtain ⟨k, hk, hq2⟩ := List.mem_flatMap.mp hq
  obtain ⟨l, hl, rfl⟩ := List.mem_map.mp hq2
  have hlt := gls_t (rows := rows) h0 h1 h3 l hl
  refine QT_of ?_ (gls_bt _ _ _ l hl) hlt.1 hlt.2
  rcases List.mem_cons.mp hk with rfl | hk
  · exact ⟨0, rnk_mod (by omega) (by omega), Or.inl ⟨rfl, rfl, rfl⟩⟩
  · rcases List.mem_append.mp hk with hk | hk
    · obtain ⟨a, ha, rfl⟩ := List.mem_map.mp hk
      have := cblN_mem ha
      exact ⟨1, rnk_mod (by omega) (by omega), Or.inr (Or.inl ⟨a, this.1, this.2.2, rfl, rfl, rfl⟩)⟩
    · exact kPr_t _ (fun a ha => ⟨(cblN_mem ha).1, (cblN_mem ha).2.2⟩) k hk
theorem prs_mem {x y : Int} {xs : List Int} (h : y ∈ prs x xs) : (y = x ∧ 0 ≤ x) ∨ y ∈ xs := by
  unfold prs at h
  split at h
  · exact Or.inr h
  · rcases oi_mem h with e | e
    · exact Or.inl ⟨e, by omega⟩
    · exact Or.inr e
theorem QT_dig {rows lc r y : Int} (h : QT rows lc r y) {i : Nat} (hi : (i : Int) < r % 16 + lc) : ∃ x : Nat, x < 72 ∧ thr rows x ∧ y / 128 ^ ((r % 16 + lc).toNat - 1 - i) % 128 = (x : Int) := by
  obtain ⟨l, one, two, cn, rfl, h1, h2, h3, h4, t1, t2, t3⟩ := h
  obtain ⟨c1, c2, c3, c4, c5⟩ := cand_of h3 h4
  have hb := bz_01 (0 ≤ l)
  have hcn : 0 ≤ cn := by rcases h4 with q | q | q <;> omega
  have en : cn.toNat + (bz (0 ≤ l)).toNat = (r % 16 + lc).toNat := by omega
  rw [en] at c1 c3 c4
  have hin : i < (r % 16 + lc).toNat := by omega
  have hd := c4 i hin
  have hbd := c3 i hin
  have hm : (prs two (prs one (prs l []))).getD i 0 ∈ prs two (prs one (prs l [])) := by
    rw [List.getD_eq_getElem?_getD, List.getElem?_eq_getElem (by omega)]
    exact List.getElem_mem _
  rw [hd] at hm hbd
  have ht : thr rows (pkA l one two / 128 ^ ((r % 16 + lc).toNat - 1 - i) % 128) := by
    rcases prs_mem hm with ⟨e, q⟩ | hm
    · rw [e]; exact t3 q
    · rcases prs_mem hm with ⟨e, q⟩ | hm
      · rw [e]; exact t2 q
      · rcases prs_mem hm with ⟨e, q⟩ | hm
        · rw [e]; exact t1 q
        · cases hm
  obtain ⟨x, hx⟩ := Int.eq_ofNat_of_zero_le hbd.1
  rw [hx] at ht hbd
  exact ⟨x, by omega, ht, hx⟩
theorem orN_congr {f g : Nat → Int} : ∀ {n : Nat}, (∀ k, k < n → f k = g k) → orN f n = orN g n
  | 0, _ => rfl
  | n + 1, h => by
    unfold orN
    rw [orN_congr (fun k hk => h k (by omega)), h n (by omega)]
/-- one sound -/
theorem sound_tie {J J' : zJ} {a n b : Nat} {base rows : Int} {ch lo : Nat → Int} (hL : Lrn J a base rows n ch lo) (hH : HandOK J a n) (hn : n ≤ 8) (hb : b < n) (h0 : 0 ≤ base) (h1 : base < 12) (h3 : lo b ≤ 11) (hSG : SG J (a + 15 + 2 * b) J' b) (h87 : J (a + 5) b = J' 87 b) (h77 : J' 77 0 = base) : hnt J a b = mnt J' b := by
  have hP := hL.pre hn
  obtain ⟨c1, c2, c3⟩ := hH.ch hP hb
  have hg := hL.2 b hb
  obtain ⟨⟨g1, g2⟩, g3, g4, g5⟩ := hg
  obtain ⟨s1, s2, s3, s4, s5⟩ := hSG
  have hk := s5 (hch J a b) c3
  have hkl : hch J a b < (gF (ch b) base rows (lo b)).2.length := by omega
  unfold hnt mnt
  rw [s3, ← h87, c2, Int.toNat_natCast, h77]
  refine orN_congr (fun i hi => ?_)
  have hi2 : (i : Int) < J (a + 15 + 2 * b) 2 := by omega
  obtain ⟨d1, d2⟩ := hk.2 i hi2
  show J (a + 2) (digZ (J (a + 15 + 2 * b) 2) (J (a + 15 + 2 * b + 1) (hch J a b)) i).toNat = snd base (J' 84 (60 * b + 3 * hch J a b + i))
  rw [d1]
  have hm : (gF (ch b) base rows (lo b)).2.getD (hch J a b) 0 ∈ (gF (ch b) base rows (lo b)).2 := by
    rw [List.getD_eq_getElem?_getD, List.getElem?_eq_getElem hkl]
    exact List.getElem_mem hkl
  obtain ⟨x, x1, x2, x3⟩ := QT_dig (gF_QT h0 h1 h3 _ hm) (i := i) (by rw [g3] at hi2; exact hi2)
  have ex : J' 84 (60 * b + 3 * hch J a b + i) = (x : Int) := by
    rw [d2, g2 _ hkl, g3]; exact x3
  rw [ex, Int.toNat_natCast]
  have ht := hL.1.1 x x1
  rw [show a + 2 = a + 1 + 1 by omega, ht]
  unfold ntc
  rw [if_pos x2]
