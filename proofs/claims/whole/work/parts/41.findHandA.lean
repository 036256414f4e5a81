
theorem isNx_ex (s : Nat → Int) {n : Nat} : ∀ b, b ≤ n → ∃ m, isNx s n b m := by
  refine up_ind (fun i hi ih => ?_)
  by_cases e : i = n
  · exact ⟨n, hi, Nat.le_refl _, fun x h1 h2 => by omega, fun h => by omega⟩
  · by_cases h : 0 < s i
    · exact ⟨i, Nat.le_refl _, hi, fun x h1 h2 => by omega, fun _ => h⟩
    · obtain ⟨m, a1, a2, a3, a4⟩ := ih (by omega)
      refine ⟨m, by omega, a2, fun x h1 h2 => ?_, a4⟩
      by_cases e2 : x = i
      · rw [e2]; exact h
      · exact a3 x (by omega) h2
def BHp (s : Nat → Int) (ct : Nat → Nat) (pl t : Nat → Nat → Int) (n b k : Nat) (v : Int) : Prop := ∀ m, isNx s n (b + 1) m → (m = n → v = 0) ∧ (m < n → v = minN (fun j => absZ (pl b k - pl m j) + t m j) 1000000 (ct m))
theorem lm_step {s : Nat → Int} {ct : Nat → Nat} {pl t : Nat → Nat → Int} {n b : Nat} (hn8 : n ≤ 8) (hb : b < n) (hct : ∀ x, b < x → x < n → 1 ≤ ct x) (hpl : ∀ x, b ≤ x → x < n → 0 < s x → ∀ k, k < ct x → 0 ≤ pl x k ∧ pl x k ≤ 21) (hT : ∀ x, b + 1 ≤ x → x < n → HTb s ct pl t n x) (hv : 0 < s b → ∀ k, k < ct b → BHp s ct pl t n b k (t b k)) : HTb s ct pl t n b := by
  intro h0 k hk
  obtain ⟨m, hm⟩ := isNx_ex s (n := n) (b + 1) (by omega)
  have hvk := hv h0 k hk m hm
  by_cases e : m = n
  · have hz := hvk.1 e
    refine ⟨by rw [hz]; omega, fun m' hm' => ⟨fun _ => hz, fun q => ?_⟩⟩
    have := isNx_uni hm hm'
    omega
  · have hmn : m < n := by have := hm.2.1; omega
    have hbm : b + 1 ≤ m := hm.1
    have hsm := hm.2.2.2 hmn
    have hTm := hT m hbm hmn hsm
    have hva := hvk.2 hmn
    have hab : ∀ j, j < ct m → 0 ≤ absZ (pl b k - pl m j) ∧ absZ (pl b k - pl m j) ≤ 21 := fun j hj => absZ_le (by have := hpl b (Nat.le_refl _) hb h0 k hk; have := hpl m (by omega) hmn hsm j hj; omega) (by have := hpl b (Nat.le_refl _) hb h0 k hk; have := hpl m (by omega) hmn hsm j hj; omega)
    have hmin := minN_is (f := fun j => absZ (pl b k - pl m j) + t m j) (i := 1000000) (n := ct m) (by have := hct m (by omega) hmn; omega) (fun j hj => by
      have h3 := (hTm j hj).1
      have h4 := hab j hj
      show absZ (pl b k - pl m j) + t m j ≤ _
      omega)
    rw [← hva] at hmin
    refine ⟨?_, fun m' hm' => ?_⟩
    · obtain ⟨j, hj, ej⟩ := hmin.1
      have h3 := (hTm j hj).1
      have h4 := hab j hj
      have ej' : absZ (pl b k - pl m j) + t m j = t b k := ej
      omega
    · have := isNx_uni hm hm'
      subst this
      exact ⟨fun q => absurd q e, fun _ => hmin⟩

theorem minN_congr {f g : Nat → Int} {i : Int} : ∀ {n : Nat}, (∀ k, k < n → f k = g k) → minN f i n = minN g i n
  | 0, _ => rfl
  | n + 1, h => by
    unfold minN
    rw [minN_congr (fun k hk => h k (by omega)), h n (by omega)]

theorem lpFhI {G : gx_G} {X : gx_X} (hG : gx_OK G 91) (B : gx_B G X RX6 cX6_findHand 6 rmX6_findHand 91) {n b : Nat} {Jb : zJ} (hP : HPm Jb n b) (hz0 : ∀ x, b + 1 ≤ x → x < n → 0 ≤ Jb 82 x ∧ Jb 82 x ≤ 3) (hb : b < n) (ht : ∀ m, b < m → m < n → 0 < Jb 82 m → ∀ j, j < mct Jb m → 0 ≤ mtc Jb m j ∧ mtc Jb m j ≤ 1000) (kk : ∀ J : zJ, (∀ x q, ¬ (x = 86 ∧ 20 * b ≤ q ∧ q < 20 * b + 20) → J x q = Jb x q) → (0 < Jb 82 b → ∀ q, q < mct Jb b → BHp (Jb 82) (mct Jb) (mpl Jb) (mtc Jb) n b q (J 86 (20 * b + q))) → gx_WG G X 6 (zh J) 62 [(0, .ref (gx_ad G 76)), (1, .int (zI (b : Int)))] []) : ∀ k : Nat, k ≤ mct Jb b → ∀ (J : zJ), (∀ x q, ¬ (x = 86 ∧ 20 * b ≤ q ∧ q < 20 * b + 20) → J x q = Jb x q) → (∀ q, q < k → BHp (Jb 82) (mct Jb) (mpl Jb) (mtc Jb) n b q (J 86 (20 * b + q))) → gx_WG G X 6 (zh J) 20 [(0, .ref (gx_ad G 76)), (1, .int (zI (b : Int))), (2, .int (zI (k : Int)))] [] := by
  refine up_ind (fun k hi ih => ?_)
  intro J hJ hq
  have h8 := hP.2.1
  have hPb := hP.2.2 b (Nat.le_refl _) hb
  have hcb : Jb 83 b = (mct Jb b : Int) := by unfold mct; omega
  have e82 : J 82 = Jb 82 := funext fun x => hJ _ _ (by omega)
  have ect : mct J = mct Jb := funext fun x => by unfold mct; rw [hJ _ _ (by omega)]
  have epl : mpl J = mpl Jb := funext fun x => funext fun y => by unfold mpl; rw [hJ _ _ (by omega)]
  have etc : ∀ m, m ≠ b → ∀ j, j < 20 → True := fun _ _ _ _ => trivial
  have c83 : J 83 b = (mct Jb b : Int) := by rw [hJ _ _ (by omega)]; exact hcb
  have c82 : J 82 b = Jb 82 b := hJ _ _ (by omega)
  refine gx_iload_n B dX6_findHand_20 rfl rfl ?_
  refine gx_aload_n B dX6_findHand_21 rfl rfl ?_
  refine gx_getr (t := 83) B fl_X6_28 rfl (by decide) rfl dX6_findHand_22 ?_
  refine gx_iload_n B dX6_findHand_25 rfl rfl ?_
  refine z_iald b B rfl (by decide) rfl (show b < 8 by omega) (by decide) dX6_findHand_26 ?_
  refine z_icmp_ge (tgt := 62) B dX6_findHand_27 ⟨by omega, by omega⟩ ⟨by omega, by omega⟩ (by decide) (fun c27 => ?_) (fun c27 => ?_)
  · refine gx_sub [0, 1] rfl ?_
    exact kk J hJ (fun hs q hq1 => by first | exact hq q (by omega) | (exfalso; omega))
  · refine gx_aload_n B dX6_findHand_30 rfl rfl ?_
    refine gx_getr (t := 82) B fl_X6_25 rfl (by decide) rfl dX6_findHand_31 ?_
    refine gx_iload_n B dX6_findHand_34 rfl rfl ?_
    refine z_iald b B rfl (by decide) rfl (show b < 8 by omega) (by decide) dX6_findHand_35 ?_
    refine z_if_le (tgt := 62) B dX6_findHand_36 ⟨by omega, by omega⟩ (by decide) (fun c36 => ?_) (fun c36 => ?_)
    · refine gx_sub [0, 1] rfl ?_
      exact kk J hJ (fun hs q hq1 => by first | exact hq q (by omega) | (exfalso; omega))
    · have hsb : 0 < Jb 82 b := by omega
      have hPJ : HPm J n b := ⟨by rw [hJ _ _ (by omega)]; exact hP.1, hP.2.1, fun x q1 q2 => by rw [e82, hJ 83 x (by omega), ect, epl]; exact hP.2.2 x q1 q2⟩
      refine gx_aload_n B dX6_findHand_39 rfl rfl ?_
      refine gx_getr (t := 86) B fl_X6_37 rfl (by decide) rfl dX6_findHand_40 ?_
      refine z_bipush B dX6_findHand_43 (by decide) ?_
      refine gx_iload_n B dX6_findHand_45 rfl rfl ?_
      refine z_imul B dX6_findHand_46 ?_
      refine gx_iload_n B dX6_findHand_47 rfl rfl ?_
      refine z_iadd B dX6_findHand_48 ?_
      refine gx_aload_n B dX6_findHand_49 rfl rfl ?_
      refine gx_iload_n B dX6_findHand_50 rfl rfl ?_
      refine gx_iload_n B dX6_findHand_51 rfl rfl ?_
      refine z_callVi [.int (zI (b : Int)), .int (zI (k : Int))] B lv_X6_118 (mX6_behind hG J (n := n) (b := b) (k := k) hPJ (fun x hx1 hx => by rw [e82]; exact hz0 x hx1 hx) (by omega) (by rw [ect]; omega) (by rw [e82]; exact hsb) (fun m q1 q2 q3 j hj => by rw [show mtc J m j = mtc Jb m j from hJ _ _ (by have := hP.2.2 m (by omega) q2; rw [ect] at hj; unfold mct at hj; omega)]; rw [ect] at hj; rw [e82] at q3; exact ht m q1 q2 q3 j hj)) rfl (by decide) rfl rfl (Nat.le_of_ble_eq_true rfl) (by decide) (by decide) dX6_findHand_52 (fun bv J1 hJ1 => ?_)
      rw [hJ1.2]
      have h_bv := hJ1.1
      refine z_iast (20 * b + k) B rfl (by decide) (by omega) (show 20 * b + k < 160 by omega) (by decide) dX6_findHand_55 (fun J1 hJ1 => ?_)
      refine z_iinc (fun v9 => [(0, .ref (gx_ad G 76)), (1, .int (zI (b : Int))), (2, .int (zI v9))]) B dX6_findHand_56 rfl (by decide) rfl (fun _ => rfl) (fun v2 hv2 => ?_)
      rw [show v2 = ((k + 1 : Nat) : Int) from (by omega)]
      refine gx_goto (tgt := 20) B dX6_findHand_59 (by decide) ?_
      refine ih (by omega) J1 (fun x q h => by rw [hJ1, zup_ne (by omega)]; exact hJ x q h) (fun q hq1 => ?_)
      by_cases e : q = k
      · subst e
        rw [hJ1, zup_self]
        intro m hm
        have h9 := h_bv m (by rw [e82]; exact hm)
        refine ⟨h9.1, fun hmn => ?_⟩
        have h10 := h9.2 hmn
        rw [epl, ect] at h10
        rw [h10]
        refine minN_congr (fun j hj => ?_)
        have hmb := hm.1
        have hcm := hP.2.2 m (by omega) hmn
        show absZ (mpl Jb b q - mpl Jb m j) + mtc J m j = absZ (mpl Jb b q - mpl Jb m j) + mtc Jb m j
        unfold mtc
        rw [hJ _ _ (by unfold mct at hj; omega)]
      · rw [hJ1, zup_ne (by omega)]; exact hq q (by omega)

