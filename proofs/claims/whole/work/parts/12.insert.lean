
def GS (J : zJ) (g : Nat) (xs : List Int) : Prop := J g 1 = (xs.length : Int) ∧ ∀ k, k < xs.length → J (g + 1) k = xs.getD k 0
def shf (J : zJ) (g i m : Nat) : zJ := fun a k => if a = g + 1 ∧ i < k ∧ k ≤ m then J (g + 1) (k - 1) else J a k
theorem shf_start (J : zJ) (g m : Nat) : shf J g m m = J := by
  funext a k
  unfold shf
  rw [if_neg (by omega)]
theorem shf_step {J : zJ} {g i m : Nat} (h0 : 0 < i) (hm : i ≤ m) : zup (shf J g i m) (g + 1) i (shf J g i m (g + 1) (i - 1)) = shf J g (i - 1) m := by
  funext a k
  unfold zup
  by_cases e : a = g + 1 ∧ k = i
  · rw [if_pos e]
    unfold shf
    rw [if_neg (by omega), if_pos (by omega), e.2]
  · rw [if_neg e]
    unfold shf
    by_cases e2 : a = g + 1 ∧ i < k ∧ k ≤ m
    · rw [if_pos e2, if_pos (by omega)]
    · rw [if_neg e2, if_neg (by omega)]
theorem gins_full {c : Int} {xs : List Int} (h : xs.length = 20) (h1 : ∀ j, j < 20 → xs.getD j 0 ≤ c) : gins c xs = xs := by
  unfold gins
  rw [oi_at xs 20 (by omega) h1 (fun j a b => by omega)]
  rw [List.take_append_of_le_length (by simp; omega), List.take_take]
  simp [List.take_of_length_le (show xs.length ≤ 20 by omega)]

theorem lpInsA {G : gx_G} {X : gx_X} (hG : gx_OK G 76) (B : gx_B G X RX3 cX3_insert 4 rmX3_insert 76) {g n : Nat} (hg : isGoods g) {J : zJ} {c : Int} (hc : zB c) (hn : n ≤ 20) (hB : ∀ k, k < n → zB (J (g + 1) k)) (kk : ∀ p : Nat, p ≤ n → (∀ j, p ≤ j → j < n → c < J (g + 1) j) → (p = 0 ∨ J (g + 1) (p - 1) ≤ c) → gx_WG G X 4 (zh J) 34 [(0, .ref (gx_ad G g)), (1, .int (zI c)), (2, .int (zI (p : Int))), (3, .int (zI ((p : Int) - 1)))] []) : ∀ p : Nat, p ≤ n → (∀ j, p ≤ j → j < n → c < J (g + 1) j) → gx_WG G X 4 (zh J) 12 [(0, .ref (gx_ad G g)), (1, .int (zI c)), (2, .int (zI (p : Int))), (3, .int (zI ((p : Int) - 1)))] [] := by
  refine dn_ind (fun p ih => ?_)
  intro hp hall
  refine gx_iload_n B dX3_insert_12 rfl rfl ?_
  refine z_if_lt (tgt := 34) B dX3_insert_13 ⟨by omega, by omega⟩ (by decide) (fun c13 => ?_) (fun c13 => ?_)
  · exact kk p hp hall (by first | exact Or.inr c23 | exact Or.inl (by omega))
  · refine gx_aload_n B dX3_insert_16 rfl rfl ?_
    refine gx_getr (t := (g + 1)) B fl_X3_9 (kGoods hg) (bGoods hg) (rGoods0 hg) dX3_insert_17 ?_
    refine gx_iload_n B dX3_insert_20 rfl rfl ?_
    refine z_iald (p - 1) B (aGoods hg) (cGoods hg) (by omega) (show p - 1 < 20 by omega) (by decide) dX3_insert_21 ?_
    refine gx_iload_n B dX3_insert_22 rfl rfl ?_
    refine z_icmp_le (tgt := 34) B dX3_insert_23 (hB (p - 1) (by omega)) hc (by decide) (fun c23 => ?_) (fun c23 => ?_)
    · exact kk p hp hall (by first | exact Or.inr c23 | exact Or.inl (by omega))
    · refine gx_iload_n B dX3_insert_26 rfl rfl ?_
      refine z_istore_n (fun v9 => [(0, .ref (gx_ad G g)), (1, .int (zI c)), (2, .int (zI v9)), (3, .int (zI ((p : Int) - 1)))]) B dX3_insert_27 rfl (by decide) rfl (fun _ => rfl) (fun v2 hv2 => ?_)
      rw [show v2 = ((p - 1 : Nat) : Int) from (by omega)]
      refine z_iinc (fun v9 => [(0, .ref (gx_ad G g)), (1, .int (zI c)), (2, .int (zI ((p - 1 : Nat) : Int))), (3, .int (zI v9))]) B dX3_insert_28 rfl (by decide) rfl (fun _ => rfl) (fun v3 hv3 => ?_)
      rw [show v3 = ((p - 1 : Nat) : Int) - 1 from (by omega)]
      refine gx_goto (tgt := 12) B dX3_insert_31 (by decide) ?_
      refine ih (p - 1) (by omega) (by omega) (fun j h1 h2 => ?_)
      by_cases e : j = p - 1
      · rw [e]; exact c23
      · exact hall j (by omega) h2

theorem lpInsB {G : gx_G} {X : gx_X} (hG : gx_OK G 76) (B : gx_B G X RX3 cX3_insert 4 rmX3_insert 76) {g p m : Nat} (hg : isGoods g) {J : zJ} {c : Int} (hm : m ≤ 19) (kk : gx_WG G X 4 (zh (shf J g p m)) 76 [(0, .ref (gx_ad G g)), (1, .int (zI c)), (2, .int (zI (p : Int))), (3, .int (zI (p : Int)))] []) : ∀ i : Nat, p ≤ i → i ≤ m → gx_WG G X 4 (zh (shf J g i m)) 51 [(0, .ref (gx_ad G g)), (1, .int (zI c)), (2, .int (zI (p : Int))), (3, .int (zI (i : Int)))] [] := by
  refine dn_ind (fun i ih => ?_)
  intro hpi him
  refine gx_iload_n B dX3_insert_51 rfl rfl ?_
  refine gx_iload_n B dX3_insert_52 rfl rfl ?_
  refine z_icmp_le (tgt := 76) B dX3_insert_53 ⟨by omega, by omega⟩ ⟨by omega, by omega⟩ (by decide) (fun c53 => ?_) (fun c53 => ?_)
  · obtain rfl : i = p := by omega
    exact kk
  · refine gx_aload_n B dX3_insert_56 rfl rfl ?_
    refine gx_getr (t := (g + 1)) B fl_X3_9 (kGoods hg) (bGoods hg) (rGoods0 hg) dX3_insert_57 ?_
    refine gx_iload_n B dX3_insert_60 rfl rfl ?_
    refine gx_aload_n B dX3_insert_61 rfl rfl ?_
    refine gx_getr (t := (g + 1)) B fl_X3_9 (kGoods hg) (bGoods hg) (rGoods0 hg) dX3_insert_62 ?_
    refine gx_iload_n B dX3_insert_65 rfl rfl ?_
    refine z_iconst B dX3_insert_66 ?_
    refine z_isub B dX3_insert_67 ?_
    refine z_iald (i - 1) B (aGoods hg) (cGoods hg) (by omega) (show i - 1 < 20 by omega) (by decide) dX3_insert_68 ?_
    refine z_iast i B (aGoods hg) (cGoods hg) rfl (show i < 20 by omega) (by decide) dX3_insert_69 (fun J1 hJ1 => ?_)
    refine z_iinc (fun v9 => [(0, .ref (gx_ad G g)), (1, .int (zI c)), (2, .int (zI (p : Int))), (3, .int (zI v9))]) B dX3_insert_70 rfl (by decide) rfl (fun _ => rfl) (fun v3 hv3 => ?_)
    rw [show v3 = ((i - 1 : Nat) : Int) from (by omega)]
    refine gx_goto (tgt := 51) B dX3_insert_73 (by decide) ?_
    rw [shf_step (by omega) him] at hJ1
    subst hJ1
    exact ih (i - 1) (by omega) (by omega) (by omega)

theorem mX3_insert {l : Launch} {G : gx_G} (hG : gx_OK G 76) {g : Nat} (hg : isGoods g) (J : zJ) {c : Int} (hc : zB c) (xs : List Int) (hs : GS J g xs) (hn0 : xs.length ≤ 20) (ho : srtd xs) (hB0 : ∀ k, k < xs.length → zB (xs.getD k 0)) : zMv l G yX3_insert cX3_insert 4 rmX3_insert [.ref (gx_ad G g), .int (zI c)] J (fun J' => GS J' g (gins c xs) ∧ ∀ a k, a ≠ g + 1 → ¬ (a = g ∧ k = 1) → J' a k = J a k) := by
  refine gx_mv hG (by decide) (Nat.le_of_ble_eq_true rfl) (fun X hla B Rt => ?_)
  subst hla
  have B : gx_B G X RX3 cX3_insert 4 rmX3_insert 76 := B
  show gx_WG G X 4 (zh J) 0 [(0, .ref (gx_ad G g)), (1, .int (zI c))] []
  obtain ⟨n, hn1⟩ : ∃ n, n = xs.length := ⟨_, rfl⟩
  have hn : n ≤ 20 := by omega
  have hJn : J g 1 = (n : Int) := by rw [hs.1, hn1]
  have hB : ∀ k, k < n → zB (J (g + 1) k) := fun k hk => by rw [hs.2 k (by omega)]; exact hB0 k (by omega)
  refine gx_aload_n B dX3_insert_0 rfl rfl ?_
  refine z_geti B fl_X3_15 (kGoods hg) (bGoods hg) (zGoods1 hg) dX3_insert_1 ?_
  refine z_istore_n (fun v9 => [(0, .ref (gx_ad G g)), (1, .int (zI c)), (2, .int (zI v9))]) B dX3_insert_4 rfl (by decide) rfl (fun _ => rfl) (fun v2 hv2 => ?_)
  rw [show v2 = (n : Int) from (by omega)]
  refine gx_aload_n B dX3_insert_5 rfl rfl ?_
  refine z_geti B fl_X3_15 (kGoods hg) (bGoods hg) (zGoods1 hg) dX3_insert_6 ?_
  refine z_iconst B dX3_insert_9 ?_
  refine z_isub B dX3_insert_10 ?_
  refine z_istore_n (fun v9 => [(0, .ref (gx_ad G g)), (1, .int (zI c)), (2, .int (zI (n : Int))), (3, .int (zI v9))]) B dX3_insert_11 rfl (by decide) rfl (fun _ => rfl) (fun v3 hv3 => ?_)
  rw [show v3 = (n : Int) - 1 from (by omega)]
  refine lpInsA hG B hg hc hn hB (fun p hp hall hle => ?_) n (Nat.le_refl _) (fun j h1 h2 => by omega)
  refine gx_iload_n B dX3_insert_34 rfl rfl ?_
  refine z_bipush B dX3_insert_35 (by decide) ?_
  refine z_icmp_lt (tgt := 41) B dX3_insert_37 ⟨by omega, by omega⟩ ⟨by omega, by omega⟩ (by decide) (fun c37 => ?_) (fun c37 => ?_)
  · refine gx_aload_n B dX3_insert_41 rfl rfl ?_
    refine z_geti B fl_X3_15 (kGoods hg) (bGoods hg) (zGoods1 hg) dX3_insert_42 ?_
    refine z_bipush B dX3_insert_45 (by decide) ?_
    refine z_mmin B lm_X3_89 (by decide) (Nat.le_of_ble_eq_true rfl) ⟨by omega, by omega⟩ ⟨by omega, by omega⟩ dX3_insert_47 ?_
    refine z_istore_n (fun v9 => [(0, .ref (gx_ad G g)), (1, .int (zI c)), (2, .int (zI (p : Int))), (3, .int (zI v9))]) B dX3_insert_50 rfl (by decide) rfl (fun _ => rfl) (fun v3 hv3 => ?_)
    rw [show v3 = ((min n 19 : Nat) : Int) from (by omega)]
    rw [← shf_start J g (min n 19)]
    refine lpInsB hG B hg (by omega) ?_ (min n 19) (by omega) (Nat.le_refl _)
    refine gx_aload_n B dX3_insert_76 rfl rfl ?_
    refine gx_getr (t := (g + 1)) B fl_X3_9 (kGoods hg) (bGoods hg) (rGoods0 hg) dX3_insert_77 ?_
    refine gx_iload_n B dX3_insert_80 rfl rfl ?_
    refine gx_iload_n B dX3_insert_81 rfl rfl ?_
    refine z_iast p B (aGoods hg) (cGoods hg) rfl (show p < 20 by omega) (by decide) dX3_insert_82 (fun J1 hJ1 => ?_)
    refine gx_aload_n B dX3_insert_83 rfl rfl ?_
    refine gx_aload_n B dX3_insert_84 rfl rfl ?_
    refine z_geti B fl_X3_15 (kGoods hg) (bGoods hg) (zGoods1 hg) dX3_insert_85 ?_
    refine z_iconst B dX3_insert_88 ?_
    refine z_iadd B dX3_insert_89 ?_
    refine z_bipush B dX3_insert_90 (by decide) ?_
    have hJg : J1 g 1 = (n : Int) := by
      rw [hJ1, zup_ne (by omega)]
      unfold shf
      rw [if_neg (by omega)]
      exact hJn
    refine z_mmin B lm_X3_89 (by decide) (Nat.le_of_ble_eq_true rfl) ⟨by rw [hJg]; omega, by rw [hJg]; omega⟩ ⟨by omega, by omega⟩ dX3_insert_92 ?_
    refine z_puti B fw_X3_15 (kGoods hg) (bGoods hg) (zGoods1 hg) dX3_insert_95 (fun J2 hJ2 => ?_)
    refine z_ret B Rt dX3_insert_98 ?_
    subst hJ2
    subst hJ1
    have hle2 : ∀ j, j < p → xs.getD j 0 ≤ c := fun j hj => by
      have h1 : J (g + 1) (p - 1) ≤ c := by
        rcases hle with h | h
        · omega
        · exact h
      rw [hs.2 (p - 1) (by omega)] at h1
      exact Int.le_trans (srtd_le ho (show j ≤ p - 1 by omega) (by omega)) h1
    have hgt : ∀ j, p ≤ j → j < xs.length → c < xs.getD j 0 := fun j h1 h2 => by
      rw [← hs.2 j h2]
      exact hall j h1 (by omega)
    refine ⟨⟨?_, fun k hk => ?_⟩, fun a k h1 h2 => ?_⟩
    · rw [zup_self, hJg, gins_len]
      omega
    · rw [gins_get (by omega) hle2 hgt k hk]
      rw [gins_len] at hk
      rw [zup_ne (by omega)]
      by_cases e : k < p
      · rw [if_pos e, zup_ne (by omega)]
        unfold shf
        rw [if_neg (by omega)]
        exact hs.2 k (by omega)
      · rw [if_neg e]
        by_cases e2 : k = p
        · rw [if_pos e2, e2, zup_self]
        · rw [if_neg e2, zup_ne (by omega)]
          unfold shf
          rw [if_pos (by omega)]
          exact hs.2 (k - 1) (by omega)
    · rw [zup_ne h2, zup_ne (by omega)]
      unfold shf
      rw [if_neg (by omega)]
  · refine z_ret B Rt dX3_insert_40 ?_
    have hp20 : p = 20 := by omega
    have hle2 : ∀ j, j < p → xs.getD j 0 ≤ c := fun j hj => by
      have h1 : J (g + 1) (p - 1) ≤ c := by
        rcases hle with h | h
        · omega
        · exact h
      rw [hs.2 (p - 1) (by omega)] at h1
      exact Int.le_trans (srtd_le ho (show j ≤ p - 1 by omega) (by omega)) h1
    rw [gins_full (by omega) (fun j hj => hle2 j (by omega))]
    exact ⟨hs, fun _ _ _ _ => rfl⟩

