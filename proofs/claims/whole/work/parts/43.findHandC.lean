
def mch (J : zJ) (b : Nat) : Nat := (J 87 b).toNat
/-- the first of the least so far -/
def FBm (f : Nat → Int) (k : Nat) (l : Int) (c : Nat) : Prop := (k = 0 ∧ l = 1000000 ∧ c = 0) ∨ (isFst k f c ∧ l = f c)
theorem FBm.take {f : Nat → Int} {k c : Nat} {l : Int} (h : FBm f k l c) (hl : f k < l) : FBm f (k + 1) (f k) k := by
  refine Or.inr ⟨⟨by omega, fun x hx => ?_, fun x hx => ?_⟩, rfl⟩
  · by_cases e : x = k
    · rw [e]; exact Int.le_refl _
    · rcases h with ⟨h0, _⟩ | ⟨⟨_, h2, _⟩, h4⟩
      · omega
      · have := h2 x (by omega); omega
  · rcases h with ⟨h0, _⟩ | ⟨⟨_, h2, _⟩, h4⟩
    · omega
    · have := h2 x (by omega); omega
theorem FBm.skip {f : Nat → Int} {k c : Nat} {l : Int} (h : FBm f k l c) (hl : ¬ f k < l) (hf : f k < 1000000) : FBm f (k + 1) l c := by
  rcases h with ⟨h0, h1, _⟩ | ⟨⟨h1, h2, h3⟩, h4⟩
  · omega
  · refine Or.inr ⟨⟨by omega, fun x hx => ?_, h3⟩, h4⟩
    by_cases e : x = k
    · rw [e]; omega
    · exact h2 x (by omega)
theorem FBm.le {f : Nat → Int} {k c : Nat} {l : Int} (h : FBm f k l c) (hf : ∀ x, x < k → 0 ≤ f x ∧ f x ≤ 2000) : 0 ≤ l ∧ l ≤ 1000000 ∧ c ≤ k := by
  rcases h with ⟨h0, h1, _⟩ | ⟨⟨h1, h2, h3⟩, h4⟩
  · omega
  · have := hf c h1
    omega
theorem FBm.fst {f : Nat → Int} {k c : Nat} {l : Int} (h : FBm f k l c) (h0 : 0 < k) : isFst k f c := by
  rcases h with ⟨h1, _⟩ | ⟨h1, _⟩
  · omega
  · exact h1
theorem jf_neg {pl : Nat → Nat → Int} {c : Nat → Nat} {pv : Int} {b k : Nat} (h : pv = -1) : jf pl c pv b k = 0 := by unfold jf; rw [if_pos h]
theorem jf_nat {pl : Nat → Nat → Int} {c : Nat → Nat} {p : Nat} {b k : Nat} : jf pl c (p : Int) b k = absZ (pl p (c p) - pl b k) := by
  unfold jf; rw [if_neg (by omega), Int.toNat_natCast]
theorem hs_none {s : Nat → Int} {ct : Nat → Nat} {pl t : Nat → Nat → Int} {c c' : Nat → Nat} {i : Nat} (h : ∀ b, b < i → HCb s ct pl t c b) (e : ∀ x, x < i → c x = c' x) (e0 : c' i = 0) (hs : ¬ 0 < s i) : (∀ b, b < i + 1 → HCb s ct pl t c' b) ∧ jsum s pl c' (i + 1) = jsum s pl c i := by
  refine ⟨fun b hb => ?_, ?_⟩
  · by_cases e1 : b = i
    · subst e1; exact ⟨fun _ => e0, fun q => absurd q hs⟩
    · exact HCb_congr (fun x hx => e x (by omega)) (h b (by omega))
  · show jsum s pl c' i + (if 0 < s i then jf pl c' (pvF s i) i (c' i) else 0) = _
    rw [if_neg hs, jsum_congr e]; omega
theorem hs_some {s : Nat → Int} {ct : Nat → Nat} {pl t : Nat → Nat → Int} {c c' : Nat → Nat} {i : Nat} (h : ∀ b, b < i → HCb s ct pl t c b) (e : ∀ x, x < i → c x = c' x) (hs : 0 < s i) (hf : isFst (ct i) (fun k => jf pl c (pvF s i) i k + t i k) (c' i)) : (∀ b, b < i + 1 → HCb s ct pl t c' b) ∧ jsum s pl c' (i + 1) = jsum s pl c i + jf pl c' (pvF s i) i (c' i) := by
  refine ⟨fun b hb => ?_, ?_⟩
  · by_cases e1 : b = i
    · subst e1
      refine ⟨fun q => absurd hs q, fun _ => ?_⟩
      have ef : (fun k => jf pl c' (pvF s b) b k + t b k) = (fun k => jf pl c (pvF s b) b k + t b k) := funext fun k => by rw [jf_congr e k]
      rw [ef]; exact hf
    · exact HCb_congr (fun x hx => e x (by omega)) (h b (by omega))
  · show jsum s pl c' i + (if 0 < s i then jf pl c' (pvF s i) i (c' i) else 0) = _
    rw [if_pos hs, jsum_congr e]

theorem lpFh3 {G : gx_G} {X : gx_X} (hG : gx_OK G 91) (B : gx_B G X RX6 cX6_findHand 6 rmX6_findHand 91) {n b : Nat} {Jz : zJ} (hb : b < n) (h8 : n ≤ 8) {pv : Int} (hv : pv = -1 ∨ (0 ≤ pv ∧ pv < b ∧ (0 ≤ mpl Jz pv.toNat (mch Jz pv.toNat) ∧ mpl Jz pv.toNat (mch Jz pv.toNat) ≤ 21) ∧ 0 ≤ Jz 87 pv.toNat ∧ Jz 87 pv.toNat < 20)) (hc : 1 ≤ mct Jz b ∧ mct Jz b ≤ 20 ∧ Jz 83 b = (mct Jz b : Int)) (hpb : ∀ k, k < mct Jz b → 0 ≤ mpl Jz b k ∧ mpl Jz b k ≤ 21) (ht : ∀ j, j < mct Jz b → 0 ≤ mtc Jz b j ∧ mtc Jz b j ≤ 1000) (kk : ∀ (J : zJ) (c : Nat), (∀ x q, ¬ (x = 87 ∧ q = b) → J x q = Jz x q) → J 87 b = (c : Int) → isFst (mct Jz b) (fun k => jf (mpl Jz) (mch Jz) pv b k + mtc Jz b k) c → gx_WG G X 6 (zh J) 190 [(0, .ref (gx_ad G 76)), (1, .int (zI pv)), (2, .int (zI (b : Int)))] []) : ∀ k : Nat, k ≤ mct Jz b → ∀ (J : zJ) (l : Int) (c : Nat), (∀ x q, ¬ (x = 87 ∧ q = b) → J x q = Jz x q) → J 87 b = (c : Int) → FBm (fun k => jf (mpl Jz) (mch Jz) pv b k + mtc Jz b k) k l c → gx_WG G X 6 (zh J) 112 [(0, .ref (gx_ad G 76)), (1, .int (zI pv)), (2, .int (zI (b : Int))), (3, .int (zI l)), (4, .int (zI (k : Int)))] [] := by
  refine up_ind (fun k hi ih => ?_)
  intro J l c hJ h87 hF
  have hfb : ∀ x, x < mct Jz b → 0 ≤ (fun k => jf (mpl Jz) (mch Jz) pv b k + mtc Jz b k) x ∧ (fun k => jf (mpl Jz) (mch Jz) pv b k + mtc Jz b k) x ≤ 2000 := fun x hx => by
    have h1 := hpb x hx
    have h2 := ht x hx
    have h3 : 0 ≤ jf (mpl Jz) (mch Jz) pv b x ∧ jf (mpl Jz) (mch Jz) pv b x ≤ 21 := by
      unfold jf
      split
      · omega
      · exact absZ_le (by omega) (by omega)
    show 0 ≤ jf (mpl Jz) (mch Jz) pv b x + mtc Jz b x ∧ jf (mpl Jz) (mch Jz) pv b x + mtc Jz b x ≤ 2000
    omega
  have hl := hF.le (fun x hx => hfb x (by omega))
  have e83 : J 83 b = (mct Jz b : Int) := by rw [hJ _ _ (by omega)]; exact hc.2.2
  have epl : mpl J = mpl Jz := funext fun x => funext fun y => by unfold mpl; rw [hJ _ _ (by omega)]
  refine gx_iload B dX6_findHand_112 rfl ?_
  refine gx_aload_n B dX6_findHand_114 rfl rfl ?_
  refine gx_getr (t := 83) B fl_X6_28 rfl (by decide) rfl dX6_findHand_115 ?_
  refine gx_iload_n B dX6_findHand_118 rfl rfl ?_
  refine z_iald b B rfl (by decide) rfl (show b < 8 by omega) (by decide) dX6_findHand_119 ?_
  refine z_icmp_ge (tgt := 190) B dX6_findHand_120 ⟨by omega, by omega⟩ ⟨by omega, by omega⟩ (by decide) (fun c120 => ?_) (fun c120 => ?_)
  · refine gx_sub [0, 1, 2] rfl ?_
    obtain rfl : k = mct Jz b := by omega
    exact kk J c hJ h87 (hF.fst (by omega))
  · have hfk := hfb k (by omega)
    have hpk := hpb k (by omega)
    refine gx_aload_n B dX6_findHand_123 rfl rfl ?_
    refine gx_getr (t := 86) B fl_X6_37 rfl (by decide) rfl dX6_findHand_124 ?_
    refine z_bipush B dX6_findHand_127 (by decide) ?_
    refine gx_iload_n B dX6_findHand_129 rfl rfl ?_
    refine z_imul B dX6_findHand_130 ?_
    refine gx_iload B dX6_findHand_131 rfl ?_
    refine z_iadd B dX6_findHand_133 ?_
    refine z_iald (20 * b + k) B rfl (by decide) (by omega) (show 20 * b + k < 160 by omega) (by decide) dX6_findHand_134 ?_
    rw [show J 86 (20 * b + k) = mtc Jz b k from (hJ _ _ (by omega))]
    refine gx_iload_n B dX6_findHand_135 rfl rfl ?_
    refine z_if_ge (tgt := 143) B dX6_findHand_136 ⟨by omega, by omega⟩ (by decide) (fun c136 => ?_) (fun c136 => ?_)
    · obtain ⟨p, rfl⟩ : ∃ p : Nat, pv = (p : Int) := ⟨pv.toNat, by omega⟩
      rw [Int.toNat_natCast] at hv
      refine gx_aload_n B dX6_findHand_143 rfl rfl ?_
      refine gx_iload_n B dX6_findHand_144 rfl rfl ?_
      refine gx_aload_n B dX6_findHand_145 rfl rfl ?_
      refine gx_getr (t := 87) B fl_X6_40 rfl (by decide) rfl dX6_findHand_146 ?_
      refine gx_iload_n B dX6_findHand_149 rfl rfl ?_
      refine z_iald p B rfl (by decide) rfl (show p < 8 by omega) (by decide) dX6_findHand_150 ?_
      rw [show J 87 p = (mch Jz p : Int) from (by unfold mch; rw [hJ _ _ (by omega)]; omega)]
      have hmc : mch Jz p < 20 := by unfold mch; omega
      refine z_callVi [.int (zI (p : Int)), .int (zI (mch Jz p : Int))] B lv_X6_111 (mX6_placeOf hG J (b := p) (k := (mch Jz p)) (by omega) (by omega)) rfl (by decide) rfl rfl (Nat.le_of_ble_eq_true rfl) (by decide) (by decide) dX6_findHand_151 (fun r2 J1 hJ1 => ?_)
      rw [show r2 = mpl J p (mch Jz p) from hJ1.1, hJ1.2]
      rw [epl]
      have q1 := 0
      refine gx_aload_n B dX6_findHand_154 rfl rfl ?_
      refine gx_iload_n B dX6_findHand_155 rfl rfl ?_
      refine gx_iload B dX6_findHand_156 rfl ?_
      refine z_callVi [.int (zI (b : Int)), .int (zI (k : Int))] B lv_X6_111 (mX6_placeOf hG J (b := b) (k := k) (by omega) (by omega)) rfl (by decide) rfl rfl (Nat.le_of_ble_eq_true rfl) (by decide) (by decide) dX6_findHand_158 (fun r4 J3 hJ3 => ?_)
      rw [show r4 = mpl J b k from hJ3.1, hJ3.2]
      rw [epl]
      have q2 := 0
      refine z_callSi [.int (zI (mpl Jz p (mch Jz p))), .int (zI (mpl Jz b k))] B ls_X6_115 (mX6_away hG J (a := mpl Jz p (mch Jz p)) (b := mpl Jz b k) ⟨by omega, by omega⟩ ⟨by omega, by omega⟩) rfl rfl (Nat.le_of_ble_eq_true rfl) (by decide) (by decide) dX6_findHand_161 (fun r6 J5 hJ5 => ?_)
      rw [show r6 = absZ (mpl Jz p (mch Jz p) - (mpl Jz b k)) from hJ5.1, hJ5.2]
      refine z_iadd B dX6_findHand_164 ?_
      refine z_istore (fun v9 => [(0, .ref (gx_ad G 76)), (1, .int (zI (p : Int))), (2, .int (zI (b : Int))), (3, .int (zI l)), (4, .int (zI (k : Int))), (5, .int (zI v9))]) B dX6_findHand_165 (by decide) rfl (fun _ => rfl) (fun v5 hv5 => ?_)
      rw [show v5 = (fun k => jf (mpl Jz) (mch Jz) (p : Int) b k + mtc Jz b k) k from (by rw [hv5]; first | (show _ = jf (mpl Jz) (mch Jz) pv b k + mtc Jz b k; rw [jf_neg (by omega)]; omega) | (show _ = jf (mpl Jz) (mch Jz) (p : Int) b k + mtc Jz b k; rw [jf_nat]; omega))]
      refine gx_iload B dX6_findHand_167 rfl ?_
      refine gx_iload_n B dX6_findHand_169 rfl rfl ?_
      refine z_icmp_ge (tgt := 184) B dX6_findHand_170 ⟨by omega, by omega⟩ ⟨by omega, by omega⟩ (by decide) (fun c170 => ?_) (fun c170 => ?_)
      · have c170 := Int.not_lt.mpr c170
        refine z_iinc (fun v9 => [(0, .ref (gx_ad G 76)), (1, .int (zI (p : Int))), (2, .int (zI (b : Int))), (3, .int (zI l)), (4, .int (zI v9)), (5, .int (zI ((fun k => jf (mpl Jz) (mch Jz) (p : Int) b k + mtc Jz b k) k)))]) B dX6_findHand_184 rfl (by decide) rfl (fun _ => rfl) (fun v4 hv4 => ?_)
        rw [show v4 = ((k + 1 : Nat) : Int) from (by omega)]
        refine gx_goto (tgt := 112) B dX6_findHand_187 (by decide) ?_
        refine gx_sub [0, 1, 2, 3, 4] rfl ?_
        refine ih (by omega) J l c hJ h87 (FBm.skip hF c170 (Int.lt_of_le_of_lt hfk.2 (by decide)))
      · refine gx_iload B dX6_findHand_173 rfl ?_
        refine z_istore_n (fun v9 => [(0, .ref (gx_ad G 76)), (1, .int (zI (p : Int))), (2, .int (zI (b : Int))), (3, .int (zI v9)), (4, .int (zI (k : Int))), (5, .int (zI ((fun k => jf (mpl Jz) (mch Jz) (p : Int) b k + mtc Jz b k) k)))]) B dX6_findHand_175 rfl (by decide) rfl (fun _ => rfl) (fun v9 hv9 => ?_)
        rw [hv9]
        refine gx_aload_n B dX6_findHand_176 rfl rfl ?_
        refine gx_getr (t := 87) B fl_X6_40 rfl (by decide) rfl dX6_findHand_177 ?_
        refine gx_iload_n B dX6_findHand_180 rfl rfl ?_
        refine gx_iload B dX6_findHand_181 rfl ?_
        refine z_iast b B rfl (by decide) rfl (show b < 8 by omega) (by decide) dX6_findHand_183 (fun J1 hJ1 => ?_)
        refine z_iinc (fun v9 => [(0, .ref (gx_ad G 76)), (1, .int (zI (p : Int))), (2, .int (zI (b : Int))), (3, .int (zI ((fun k => jf (mpl Jz) (mch Jz) (p : Int) b k + mtc Jz b k) k))), (4, .int (zI v9)), (5, .int (zI ((fun k => jf (mpl Jz) (mch Jz) (p : Int) b k + mtc Jz b k) k)))]) B dX6_findHand_184 rfl (by decide) rfl (fun _ => rfl) (fun v4 hv4 => ?_)
        rw [show v4 = ((k + 1 : Nat) : Int) from (by omega)]
        refine gx_goto (tgt := 112) B dX6_findHand_187 (by decide) ?_
        refine gx_sub [0, 1, 2, 3, 4] rfl ?_
        refine ih (by omega) J1 _ k (fun x q h => by rw [hJ1, zup_ne h]; exact hJ x q h) (by rw [hJ1, zup_self]) (FBm.take hF c170)
    · refine z_iconst B dX6_findHand_139 ?_
      refine gx_goto (tgt := 164) B dX6_findHand_140 (by decide) ?_
      refine z_iadd B dX6_findHand_164 ?_
      refine z_istore (fun v9 => [(0, .ref (gx_ad G 76)), (1, .int (zI pv)), (2, .int (zI (b : Int))), (3, .int (zI l)), (4, .int (zI (k : Int))), (5, .int (zI v9))]) B dX6_findHand_165 (by decide) rfl (fun _ => rfl) (fun v5 hv5 => ?_)
      rw [show v5 = (fun k => jf (mpl Jz) (mch Jz) pv b k + mtc Jz b k) k from (by rw [hv5]; first | (show _ = jf (mpl Jz) (mch Jz) pv b k + mtc Jz b k; rw [jf_neg (by omega)]; omega) | (show _ = jf (mpl Jz) (mch Jz) (p : Int) b k + mtc Jz b k; rw [jf_nat]; omega))]
      refine gx_iload B dX6_findHand_167 rfl ?_
      refine gx_iload_n B dX6_findHand_169 rfl rfl ?_
      refine z_icmp_ge (tgt := 184) B dX6_findHand_170 ⟨by omega, by omega⟩ ⟨by omega, by omega⟩ (by decide) (fun c170 => ?_) (fun c170 => ?_)
      · have c170 := Int.not_lt.mpr c170
        refine z_iinc (fun v9 => [(0, .ref (gx_ad G 76)), (1, .int (zI pv)), (2, .int (zI (b : Int))), (3, .int (zI l)), (4, .int (zI v9)), (5, .int (zI ((fun k => jf (mpl Jz) (mch Jz) pv b k + mtc Jz b k) k)))]) B dX6_findHand_184 rfl (by decide) rfl (fun _ => rfl) (fun v4 hv4 => ?_)
        rw [show v4 = ((k + 1 : Nat) : Int) from (by omega)]
        refine gx_goto (tgt := 112) B dX6_findHand_187 (by decide) ?_
        refine gx_sub [0, 1, 2, 3, 4] rfl ?_
        refine ih (by omega) J l c hJ h87 (FBm.skip hF c170 (Int.lt_of_le_of_lt hfk.2 (by decide)))
      · refine gx_iload B dX6_findHand_173 rfl ?_
        refine z_istore_n (fun v9 => [(0, .ref (gx_ad G 76)), (1, .int (zI pv)), (2, .int (zI (b : Int))), (3, .int (zI v9)), (4, .int (zI (k : Int))), (5, .int (zI ((fun k => jf (mpl Jz) (mch Jz) pv b k + mtc Jz b k) k)))]) B dX6_findHand_175 rfl (by decide) rfl (fun _ => rfl) (fun v9 hv9 => ?_)
        rw [hv9]
        refine gx_aload_n B dX6_findHand_176 rfl rfl ?_
        refine gx_getr (t := 87) B fl_X6_40 rfl (by decide) rfl dX6_findHand_177 ?_
        refine gx_iload_n B dX6_findHand_180 rfl rfl ?_
        refine gx_iload B dX6_findHand_181 rfl ?_
        refine z_iast b B rfl (by decide) rfl (show b < 8 by omega) (by decide) dX6_findHand_183 (fun J1 hJ1 => ?_)
        refine z_iinc (fun v9 => [(0, .ref (gx_ad G 76)), (1, .int (zI pv)), (2, .int (zI (b : Int))), (3, .int (zI ((fun k => jf (mpl Jz) (mch Jz) pv b k + mtc Jz b k) k))), (4, .int (zI v9)), (5, .int (zI ((fun k => jf (mpl Jz) (mch Jz) pv b k + mtc Jz b k) k)))]) B dX6_findHand_184 rfl (by decide) rfl (fun _ => rfl) (fun v4 hv4 => ?_)
        rw [show v4 = ((k + 1 : Nat) : Int) from (by omega)]
        refine gx_goto (tgt := 112) B dX6_findHand_187 (by decide) ?_
        refine gx_sub [0, 1, 2, 3, 4] rfl ?_
        refine ih (by omega) J1 _ k (fun x q h => by rw [hJ1, zup_ne h]; exact hJ x q h) (by rw [hJ1, zup_self]) (FBm.take hF c170)


def HSm (J0 J : zJ) (i : Nat) : Prop := (∀ b, b < i → 0 ≤ J 87 b ∧ J 87 b < (if 0 < J0 82 b then J0 83 b else 1)) ∧ (∀ b, b < i → HCb (J0 82) (mct J0) (mpl J0) (mtc J0) (mch J) b) ∧ J 76 13 = jsum (J0 82) (mpl J0) (mch J) i
abbrev HFr (J J' : zJ) : Prop := ∀ x k, x ≠ 87 → ¬ (x = 76 ∧ k = 13) → J' x k = J x k

theorem lpFh4 {G : gx_G} {X : gx_X} (hG : gx_OK G 91) (B : gx_B G X RX6 cX6_findHand 6 rmX6_findHand 91) {n : Nat} {Ja J0 : zJ} (h5 : J0 77 5 = (n : Int)) (h8 : n ≤ 8) (hF : ∀ b, b < n → FH Ja J0 n b) {post : zJ → Prop} (Rt : gx_Rv G X (zpv post)) (hp : ∀ J', HSm J0 J' n → HFr J0 J' → post J') : ∀ i : Nat, i ≤ n → ∀ (J : zJ), HFr J0 J → HSm J0 J i → gx_WG G X 6 (zh J) 77 [(0, .ref (gx_ad G 76)), (1, .int (zI (pvF (J0 82) i))), (2, .int (zI (i : Int)))] [] := by
  refine up_ind (fun i hi ih => ?_)
  intro J hfr hS
  have e5 : J 77 5 = (n : Int) := by rw [hfr _ _ (by omega) (by omega)]; exact h5
  refine gx_iload_n B dX6_findHand_77 rfl rfl ?_
  refine gx_aload_n B dX6_findHand_78 rfl rfl ?_
  refine gx_getr (t := 77) B fl_X6_7 rfl (by decide) rfl dX6_findHand_79 ?_
  refine z_iconst B dX6_findHand_82 ?_
  refine z_iald 5 B rfl (by decide) rfl (by decide) (by decide) dX6_findHand_83 ?_
  refine z_icmp_ge (tgt := 240) B dX6_findHand_84 ⟨by omega, by omega⟩ ⟨by omega, by omega⟩ (by decide) (fun c84 => ?_) (fun c84 => ?_)
  · refine z_ret B Rt dX6_findHand_240 ?_
    obtain rfl : i = n := by omega
    exact hp J hS hfr
  · have hpi := (hF i (by omega)).1.pl
    refine gx_aload_n B dX6_findHand_87 rfl rfl ?_
    refine gx_getr (t := 87) B fl_X6_40 rfl (by decide) rfl dX6_findHand_88 ?_
    refine gx_iload_n B dX6_findHand_91 rfl rfl ?_
    refine z_iconst B dX6_findHand_92 ?_
    refine z_iast i B rfl (by decide) rfl (show i < 8 by omega) (by decide) dX6_findHand_93 (fun Jz hJz => ?_)
    have hfz : HFr J0 Jz := fun x k h1 h2 => by rw [hJz, zup_ne (by omega)]; exact hfr x k h1 h2
    have e82 : Jz 82 i = J0 82 i := hfz _ _ (by omega) (by omega)
    refine gx_aload_n B dX6_findHand_94 rfl rfl ?_
    refine gx_getr (t := 82) B fl_X6_25 rfl (by decide) rfl dX6_findHand_95 ?_
    refine gx_iload_n B dX6_findHand_98 rfl rfl ?_
    refine z_iald i B rfl (by decide) rfl (show i < 8 by omega) (by decide) dX6_findHand_99 ?_
    refine z_if_ne (tgt := 106) B dX6_findHand_100 ⟨by omega, by omega⟩ (by decide) (fun c100 => ?_) (fun c100 => ?_)
    · have hs0 : 0 < J0 82 i := by omega
      refine z_ldc 1000000 B dX6_findHand_106 lk_X6_110 (by decide) ?_
      refine z_istore_n (fun v9 => [(0, .ref (gx_ad G 76)), (1, .int (zI (pvF (J0 82) i))), (2, .int (zI (i : Int))), (3, .int (zI v9))]) B dX6_findHand_108 rfl (by decide) rfl (fun _ => rfl) (fun v9 hv9 => ?_)
      rw [hv9]
      refine z_iconst B dX6_findHand_109 ?_
      refine z_istore (fun v9 => [(0, .ref (gx_ad G 76)), (1, .int (zI (pvF (J0 82) i))), (2, .int (zI (i : Int))), (3, .int (zI 1000000)), (4, .int (zI v9))]) B dX6_findHand_110 (by decide) rfl (fun _ => rfl) (fun v4 hv4 => ?_)
      rw [show v4 = ((0 : Nat) : Int) from (by omega)]
      have hpl0 := pvF_lt (s := J0 82) i
      have hcx : mct Jz = mct J0 := funext fun x => by unfold mct; rw [hfz _ _ (by omega) (by omega)]
      have epx : mpl Jz = mpl J0 := funext fun x => funext fun y => by unfold mpl; rw [hfz _ _ (by omega) (by omega)]
      have etx : mtc Jz = mtc J0 := funext fun x => funext fun y => hfz _ _ (by omega) (by omega)
      have hci : Jz 83 i = (mct Jz i : Int) := by unfold mct; rw [hfz _ _ (by omega) (by omega)]; omega
      have hci2 : mct Jz i ≤ 20 ∧ 1 ≤ mct Jz i := by have : J0 83 i = Jz 83 i := (hfz _ _ (by omega) (by omega)).symm; omega
      refine lpFh3 hG B (b := i) (n := n) (Jz := Jz) (pv := pvF (J0 82) i) (by omega) h8 ?_ ⟨hci2.2, hci2.1, hci⟩ (fun k hk => by rw [epx]; rw [hcx] at hk; exact hpi.2.2 hs0 k hk) (fun j hj => by rw [etx]; rw [hcx] at hj; have h9 := ((hF i (by omega)).2 hs0 j hj).1; omega) ?_ 0 (by omega) Jz 1000000 0 (fun _ _ _ => rfl) (by rw [hJz, zup_self]; rfl) (Or.inl ⟨rfl, rfl, rfl⟩)
      · rcases hpl0 with h | ⟨q1, q2, q3⟩
        · exact Or.inl h
        · refine Or.inr ⟨q1, q2, ?_⟩
          obtain ⟨p, hp⟩ : ∃ p : Nat, pvF (J0 82) i = (p : Int) := ⟨(pvF (J0 82) i).toNat, by omega⟩
          rw [hp, Int.toNat_natCast] at q3 ⊢
          rw [hp] at q2
          have h9 := hS.1 p (by omega)
          rw [if_pos q3] at h9
          have hpp := (hF p (by omega)).1.pl
          have e87 : Jz 87 p = J 87 p := by rw [hJz, zup_ne (by omega)]
          have hmc : mch Jz p < mct J0 p := by unfold mch mct; rw [e87]; omega
          rw [epx]
          have hpq := hpp.2.2 q3 _ hmc
          rw [e87]
          exact ⟨hpq, h9.1, by omega⟩
      · intro J2 c hJ2 h87 hfst
        rw [epx, hcx, etx] at hfst
        refine gx_aload_n B dX6_findHand_190 rfl rfl ?_
        refine gx_dup B dX6_findHand_191 rfl ?_
        refine z_geti B fl_X6_121 rfl (by decide) rfl dX6_findHand_192 ?_
        refine gx_iload_n B dX6_findHand_195 rfl rfl ?_
        refine z_if_ge (tgt := 203) B dX6_findHand_196 ⟨by omega, by omega⟩ (by decide) (fun c196 => ?_) (fun c196 => ?_)
        · obtain ⟨p, hp⟩ : ∃ p : Nat, pvF (J0 82) i = (p : Int) := ⟨(pvF (J0 82) i).toNat, by omega⟩
          have e2p : mpl J2 = mpl J0 := by rw [← epx]; exact funext fun x => funext fun y => by unfold mpl; rw [hJ2 _ _ (by omega)]
          have q2 : p < i ∧ 0 < J0 82 p := by rcases hpl0 with h | ⟨q1, q2, q3⟩; (· omega); (· rw [hp, Int.toNat_natCast] at q3; exact ⟨by omega, q3⟩)
          rw [hp]
          have h9 := hS.1 p (by omega)
          rw [if_pos q2.2] at h9
          have e87 : J2 87 p = J 87 p := by rw [hJ2 _ _ (by omega), hJz, zup_ne (by omega)]
          have hmc : mch J2 p < mct J0 p := by unfold mch mct; rw [e87]; omega
          have hppp := (hF p (by omega)).1.pl
          have hm20 : mch J2 p < 20 := by unfold mct at hmc; omega
          have hpq := hppp.2.2 q2.2 _ hmc
          have hci9 : c < mct J0 i := hfst.1
          have hcc : c < 20 := by rw [hcx] at hci2; omega
          have hpc := hpi.2.2 hs0 c hci9
          refine gx_aload_n B dX6_findHand_203 rfl rfl ?_
          refine gx_iload_n B dX6_findHand_204 rfl rfl ?_
          refine gx_aload_n B dX6_findHand_205 rfl rfl ?_
          refine gx_getr (t := 87) B fl_X6_40 rfl (by decide) rfl dX6_findHand_206 ?_
          refine gx_iload_n B dX6_findHand_209 rfl rfl ?_
          refine z_iald p B rfl (by decide) rfl (show p < 8 by omega) (by decide) dX6_findHand_210 ?_
          rw [show J2 87 p = (mch J2 p : Int) from (by unfold mch; omega)]
          refine z_callVi [.int (zI (p : Int)), .int (zI (mch J2 p : Int))] B lv_X6_111 (mX6_placeOf hG J2 (b := p) (k := (mch J2 p)) (by omega) (by omega)) rfl (by decide) rfl rfl (Nat.le_of_ble_eq_true rfl) (by decide) (by decide) dX6_findHand_211 (fun r2 J1 hJ1 => ?_)
          rw [show r2 = mpl J2 p (mch J2 p) from hJ1.1, hJ1.2]
          rw [e2p]
          have q1 := 0
          refine gx_aload_n B dX6_findHand_214 rfl rfl ?_
          refine gx_iload_n B dX6_findHand_215 rfl rfl ?_
          refine gx_aload_n B dX6_findHand_216 rfl rfl ?_
          refine gx_getr (t := 87) B fl_X6_40 rfl (by decide) rfl dX6_findHand_217 ?_
          refine gx_iload_n B dX6_findHand_220 rfl rfl ?_
          refine z_iald i B rfl (by decide) rfl (show i < 8 by omega) (by decide) dX6_findHand_221 ?_
          rw [show J2 87 i = (c : Int) from h87]
          refine z_callVi [.int (zI (i : Int)), .int (zI (c : Int))] B lv_X6_111 (mX6_placeOf hG J2 (b := i) (k := c) (by omega) (by omega)) rfl (by decide) rfl rfl (Nat.le_of_ble_eq_true rfl) (by decide) (by decide) dX6_findHand_222 (fun r4 J3 hJ3 => ?_)
          rw [show r4 = mpl J2 i c from hJ3.1, hJ3.2]
          rw [e2p]
          have q3 := 0
          refine z_callSi [.int (zI (mpl J0 p (mch J2 p))), .int (zI (mpl J0 i c))] B ls_X6_115 (mX6_away hG J2 (a := mpl J0 p (mch J2 p)) (b := mpl J0 i c) ⟨by omega, by omega⟩ ⟨by omega, by omega⟩) rfl rfl (Nat.le_of_ble_eq_true rfl) (by decide) (by decide) dX6_findHand_225 (fun r6 J5 hJ5 => ?_)
          rw [show r6 = absZ (mpl J0 p (mch J2 p) - (mpl J0 i c)) from hJ5.1, hJ5.2]
          refine z_iadd B dX6_findHand_228 ?_
          refine z_puti B fw_X6_121 rfl (by decide) rfl dX6_findHand_229 (fun Jj hJj => ?_)
          refine gx_iload_n B dX6_findHand_232 rfl rfl ?_
          refine z_istore_n (fun v9 => [(0, .ref (gx_ad G 76)), (1, .int (zI v9)), (2, .int (zI (i : Int)))]) B dX6_findHand_233 rfl (by decide) rfl (fun _ => rfl) (fun v1 hv1 => ?_)
          rw [show v1 = (i : Int) from (by omega)]
          refine z_iinc (fun v9 => [(0, .ref (gx_ad G 76)), (1, .int (zI (i : Int))), (2, .int (zI v9))]) B dX6_findHand_234 rfl (by decide) rfl (fun _ => rfl) (fun v2 hv2 => ?_)
          rw [show v2 = ((i + 1 : Nat) : Int) from (by omega)]
          refine gx_goto (tgt := 77) B dX6_findHand_237 (by decide) ?_
          have ejj : ∀ x, Jj 87 x = J2 87 x := fun x => by rw [hJj, zup_ne (by omega)]
          have ecj : mch Jj = mch J2 := funext fun x => by unfold mch; rw [ejj]
          have eci : mch Jj i = c := by unfold mch; rw [ejj, h87]; simp
          have hexz : ∀ x, x < i → mch Jz x = mch Jj x := fun x hx => by unfold mch; rw [ejj, hJ2 _ _ (by omega)]
          have hex : ∀ x, x < i → mch J x = mch Jj x := fun x hx => by unfold mch; rw [ejj, hJ2 _ _ (by omega), hJz, zup_ne (by omega)]
          have hfst2 : isFst (mct J0 i) (fun k => jf (mpl J0) (mch J) (pvF (J0 82) i) i k + mtc J0 i k) (mch Jj i) := by
            rw [eci]
            have ef : (fun k => jf (mpl J0) (mch J) (pvF (J0 82) i) i k + mtc J0 i k) = (fun k => jf (mpl J0) (mch Jz) (pvF (J0 82) i) i k + mtc J0 i k) := funext fun k => by rw [jf_congr (c' := mch Jz) (fun x hx => by rw [hex x hx, hexz x hx]) k]
            rw [ef]; exact hfst
          have hh := hs_some hS.2.1 hex hs0 hfst2
          have h9 := ih (by omega) Jj (fun x k h1 h2 => by rw [hJj, zup_ne h2, hJ2 _ _ (by omega)]; exact hfz x k h1 h2) ⟨fun b hb => ?_, hh.1, ?_⟩
          · have e : pvF (J0 82) (i + 1) = (i : Int) := by
              show (if 0 < J0 82 i then _ else _) = _
              rw [if_pos hs0]
            rw [e] at h9
            exact h9
          · rw [ejj]
            by_cases e : b = i
            · subst e
              have h7 := hfst.1
              rw [if_pos hs0, h87]
              unfold mct at h7
              omega
            · rw [hJ2 _ _ (by omega), hJz, zup_ne (by omega)]; exact hS.1 b (by omega)
          · have e76 := congrFun (congrFun hJj 76) 13
            rw [zup_self] at e76
            rw [hh.2, e76]
            have e13 : J2 76 13 = jsum (J0 82) (mpl J0) (mch J) i := by rw [hJ2 _ _ (by omega), hJz, zup_ne (by omega)]; exact hS.2.2
            rw [← e13]
            first
            | rw [jf_neg (by omega)]
            | rw [hp, jf_nat, eci, ecj]
        · refine z_iconst B dX6_findHand_199 ?_
          refine gx_goto (tgt := 228) B dX6_findHand_200 (by decide) ?_
          refine z_iadd B dX6_findHand_228 ?_
          refine z_puti B fw_X6_121 rfl (by decide) rfl dX6_findHand_229 (fun Jj hJj => ?_)
          refine gx_iload_n B dX6_findHand_232 rfl rfl ?_
          refine z_istore_n (fun v9 => [(0, .ref (gx_ad G 76)), (1, .int (zI v9)), (2, .int (zI (i : Int)))]) B dX6_findHand_233 rfl (by decide) rfl (fun _ => rfl) (fun v1 hv1 => ?_)
          rw [show v1 = (i : Int) from (by omega)]
          refine z_iinc (fun v9 => [(0, .ref (gx_ad G 76)), (1, .int (zI (i : Int))), (2, .int (zI v9))]) B dX6_findHand_234 rfl (by decide) rfl (fun _ => rfl) (fun v2 hv2 => ?_)
          rw [show v2 = ((i + 1 : Nat) : Int) from (by omega)]
          refine gx_goto (tgt := 77) B dX6_findHand_237 (by decide) ?_
          have ejj : ∀ x, Jj 87 x = J2 87 x := fun x => by rw [hJj, zup_ne (by omega)]
          have ecj : mch Jj = mch J2 := funext fun x => by unfold mch; rw [ejj]
          have eci : mch Jj i = c := by unfold mch; rw [ejj, h87]; simp
          have hexz : ∀ x, x < i → mch Jz x = mch Jj x := fun x hx => by unfold mch; rw [ejj, hJ2 _ _ (by omega)]
          have hex : ∀ x, x < i → mch J x = mch Jj x := fun x hx => by unfold mch; rw [ejj, hJ2 _ _ (by omega), hJz, zup_ne (by omega)]
          have hfst2 : isFst (mct J0 i) (fun k => jf (mpl J0) (mch J) (pvF (J0 82) i) i k + mtc J0 i k) (mch Jj i) := by
            rw [eci]
            have ef : (fun k => jf (mpl J0) (mch J) (pvF (J0 82) i) i k + mtc J0 i k) = (fun k => jf (mpl J0) (mch Jz) (pvF (J0 82) i) i k + mtc J0 i k) := funext fun k => by rw [jf_congr (c' := mch Jz) (fun x hx => by rw [hex x hx, hexz x hx]) k]
            rw [ef]; exact hfst
          have hh := hs_some hS.2.1 hex hs0 hfst2
          have h9 := ih (by omega) Jj (fun x k h1 h2 => by rw [hJj, zup_ne h2, hJ2 _ _ (by omega)]; exact hfz x k h1 h2) ⟨fun b hb => ?_, hh.1, ?_⟩
          · have e : pvF (J0 82) (i + 1) = (i : Int) := by
              show (if 0 < J0 82 i then _ else _) = _
              rw [if_pos hs0]
            rw [e] at h9
            exact h9
          · rw [ejj]
            by_cases e : b = i
            · subst e
              have h7 := hfst.1
              rw [if_pos hs0, h87]
              unfold mct at h7
              omega
            · rw [hJ2 _ _ (by omega), hJz, zup_ne (by omega)]; exact hS.1 b (by omega)
          · have e76 := congrFun (congrFun hJj 76) 13
            rw [zup_self] at e76
            rw [hh.2, e76]
            have e13 : J2 76 13 = jsum (J0 82) (mpl J0) (mch J) i := by rw [hJ2 _ _ (by omega), hJz, zup_ne (by omega)]; exact hS.2.2
            rw [← e13]
            first
            | rw [jf_neg (by omega)]
            | rw [hp, jf_nat, eci, ecj]
    · have hs0 : ¬ 0 < J0 82 i := by omega
      refine gx_goto (tgt := 234) B dX6_findHand_103 (by decide) ?_
      refine z_iinc (fun v9 => [(0, .ref (gx_ad G 76)), (1, .int (zI (pvF (J0 82) i))), (2, .int (zI v9))]) B dX6_findHand_234 rfl (by decide) rfl (fun _ => rfl) (fun v2 hv2 => ?_)
      rw [show v2 = ((i + 1 : Nat) : Int) from (by omega)]
      refine gx_goto (tgt := 77) B dX6_findHand_237 (by decide) ?_
      have h0 : mch Jz i = 0 := by unfold mch; rw [hJz, zup_self]; rfl
      have hh := hs_none hS.2.1 (c' := mch Jz) (fun x hx => by unfold mch; rw [hJz, zup_ne (by omega)]) h0 hs0
      have h9 := ih (by omega) Jz hfz ⟨fun b hb => ?_, hh.1, by rw [hh.2, hJz, zup_ne (by omega)]; exact hS.2.2⟩
      · have e : pvF (J0 82) (i + 1) = pvF (J0 82) i := by
          show (if 0 < J0 82 i then _ else _) = _
          rw [if_neg hs0]
        rw [e] at h9
        exact h9
      · by_cases e : b = i
        · subst e; rw [hJz, zup_self, if_neg hs0]; omega
        · rw [hJz, zup_ne (by omega)]; exact hS.1 b (by omega)


/-- what findHand has found -/
def HFound (J0 J : zJ) (n : Nat) : Prop := (∀ b, b < n → FH J0 J n b) ∧ HSm J J n
abbrev FFr (J J' : zJ) : Prop := ∀ x k, ¬ (80 ≤ x ∧ x ≤ 87) → ¬ (x = 76 ∧ (k = 10 ∨ k = 13)) → J' x k = J x k
theorem HFr.fh {J0 J J' : zJ} {n : Nat} (e : HFr J J') (hF : ∀ b, b < n → FH J0 J n b) (hS : HSm J J' n) : HFound J0 J' n := by
  have e82 : J' 82 = J 82 := funext fun x => e _ _ (by omega) (by omega)
  have e83 : J' 83 = J 83 := funext fun x => e _ _ (by omega) (by omega)
  have ect : mct J' = mct J := funext fun x => by unfold mct; rw [e83]
  have epl : mpl J' = mpl J := funext fun x => funext fun y => by unfold mpl; rw [e _ _ (by omega) (by omega)]
  have etc : mtc J' = mtc J := funext fun x => funext fun y => e _ _ (by omega) (by omega)
  refine ⟨fun b hb => ⟨MG.keepb (hF b hb).1 (gMc01 _ _ _ _) (fun x h1 h2 => e _ _ (by omega) (by omega)) (fun q h1 h2 => e _ _ (by omega) (by omega)), ?_⟩, ?_⟩
  · rw [e82, ect, epl, etc]; exact (hF b hb).2
  · unfold HSm
    rw [e82, e83, ect, epl, etc]; exact hS

theorem mX6_findHand {l : Launch} {G : gx_G} (hG : gx_OK G 91) (J : zJ) {n : Nat} (hM : VM J n)  : zMv l G yX6_findHand cX6_findHand 6 rmX6_findHand [.ref (gx_ad G 76)] J (fun J' => HFound J J' n ∧ FFr J J') := by
  refine gx_mv hG (by decide) (Nat.le_of_ble_eq_true rfl) (fun X hla B Rt => ?_)
  subst hla
  have B : gx_B G X RX6 cX6_findHand 6 rmX6_findHand 91 := B
  show gx_WG G X 6 (zh J) 0 [(0, .ref (gx_ad G 76))] []
  obtain ⟨v1, v2, v3, v4, v5, ⟨h5, h8⟩, v7, v8⟩ := id hM
  refine gx_aload_n B dX6_findHand_0 rfl rfl ?_
  refine gx_getr (t := 77) B fl_X6_7 rfl (by decide) rfl dX6_findHand_1 ?_
  refine z_iconst B dX6_findHand_4 ?_
  refine z_iald 5 B rfl (by decide) rfl (by decide) (by decide) dX6_findHand_5 ?_
  refine z_iconst B dX6_findHand_6 ?_
  refine z_isub B dX6_findHand_7 ?_
  rw [show (J 77 5) - 1 = (n : Int) - 1 from (by rw [h5])]
  refine z_istore_n (fun v9 => [(0, .ref (gx_ad G 76)), (1, .int (zI v9))]) B dX6_findHand_8 rfl (by decide) rfl (fun _ => rfl) (fun v9 hv9 => ?_)
  rw [hv9]
  refine lpFhO hG B hM (fun Jq hfq hFq => ?_) n J (fun _ _ _ _ => rfl) (fun b h1 h2 => by omega) (Nat.le_refl _)
  refine gx_aload_n B dX6_findHand_68 rfl rfl ?_
  refine z_iconst B dX6_findHand_69 ?_
  refine z_puti B fw_X6_121 rfl (by decide) rfl dX6_findHand_70 (fun Jk hJk => ?_)
  refine z_iconst B dX6_findHand_73 ?_
  refine z_istore_n (fun v9 => [(0, .ref (gx_ad G 76)), (1, .int (zI v9))]) B dX6_findHand_74 rfl (by decide) rfl (fun _ => rfl) (fun v1 hv1 => ?_)
  rw [show v1 = pvF (Jq 82) 0 from (by rw [hv1]; rfl)]
  refine z_iconst B dX6_findHand_75 ?_
  refine z_istore_n (fun v9 => [(0, .ref (gx_ad G 76)), (1, .int (zI (pvF (Jq 82) 0))), (2, .int (zI v9))]) B dX6_findHand_76 rfl (by decide) rfl (fun _ => rfl) (fun v2 hv2 => ?_)
  rw [show v2 = ((0 : Nat) : Int) from (by omega)]
  have hk : HFr Jq Jk := fun x k h1 h2 => by rw [hJk, zup_ne h2]
  have e82 : Jk 82 = Jq 82 := funext fun x => hk _ _ (by omega) (by omega)
  have hMk : ∀ b, b < n → FH J Jk n b := fun b hb => by
    refine ⟨MG.keepb (hFq b hb).1 (gMc01 _ _ _ _) (fun x h1 h2 => hk _ _ (by omega) (by omega)) (fun q h1 h2 => hk _ _ (by omega) (by omega)), ?_⟩
    have ect : mct Jk = mct Jq := funext fun x => by unfold mct; rw [hk _ _ (by omega) (by omega)]
    have epl : mpl Jk = mpl Jq := funext fun x => funext fun y => by unfold mpl; rw [hk _ _ (by omega) (by omega)]
    have etc : mtc Jk = mtc Jq := funext fun x => funext fun y => hk _ _ (by omega) (by omega)
    rw [e82, ect, epl, etc]; exact (hFq b hb).2
  rw [← e82]
  refine lpFh4 hG B (n := n) (Ja := J) (J0 := Jk) (by rw [hk _ _ (by omega) (by omega), hfq _ _ (by omega) (by omega)]; exact h5) h8 hMk Rt (fun Jx hSx hfx => ⟨HFr.fh hfx hMk hSx, fun x k q1 q2 => by rw [hfx x k (by omega) (by omega), hk x k (by omega) (by omega)]; exact hfq x k (by omega) (by omega)⟩) 0 (by omega) Jk (fun _ _ _ _ => rfl) ⟨fun b hb => by omega, fun b hb => by omega, by rw [hJk, zup_self]; rfl⟩

