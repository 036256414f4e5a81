
/-- a way that keeps the air, and turns at no tied beat -/
def okW (n : Int) (u mk : Nat → Int) (st : Int) (N : Nat) (t : Nat) : Prop := ¬ tied n t mk N ∧ ∀ b, b < N → 0 ≤ airN n t u st (b + 1)
def Best (P : Nat → Prop) (f : Nat → Int) (T : Nat) (way price : Int) : Prop := (way = -1 ∧ price = 1073741824 ∧ ∀ t, t < T → ¬ P t) ∨ (∃ w : Nat, way = w ∧ w < T ∧ P w ∧ price = f w ∧ (∀ t, t < T → P t → f w ≤ f t) ∧ ∀ t, t < w → P t → f w < f t)
def Least (P : Nat → Prop) (f : Nat → Int) (T : Nat) (v : Int) : Prop := (∀ t, t < T → P t → v ≤ f t) ∧ (v = 1073741824 ∨ ∃ t, t < T ∧ P t ∧ v = f t)
theorem Best.skip {P : Nat → Prop} {f : Nat → Int} {T : Nat} {way price : Int} (h : Best P f T way price) (hs : ¬ P T ∨ price ≤ f T ∧ way ≠ -1) : Best P f (T + 1) way price := by
  rcases h with ⟨h1, h2, h3⟩ | ⟨w, h1, h2, h3, h4, h5, h6⟩
  · refine Or.inl ⟨h1, h2, fun t ht => ?_⟩
    by_cases e : t = T
    · rw [e]
      rcases hs with h | h
      · exact h
      · exact absurd h1 h.2
    · exact h3 t (by omega)
  · refine Or.inr ⟨w, h1, by omega, h3, h4, fun t ht hp => ?_, h6⟩
    by_cases e : t = T
    · subst e
      rcases hs with h | h
      · exact absurd hp h
      · rw [← h4]; exact h.1
    · exact h5 t (by omega) hp
theorem Best.take {P : Nat → Prop} {f : Nat → Int} {T : Nat} {way price : Int} (h : Best P f T way price) (hp : P T) (hf : f T < price) : Best P f (T + 1) (T : Int) (f T) := by
  refine Or.inr ⟨T, rfl, by omega, hp, rfl, fun t ht hpt => ?_, fun t ht hpt => ?_⟩
  · by_cases e : t = T
    · rw [e]; exact Int.le_refl _
    · rcases h with ⟨h1, h2, h3⟩ | ⟨w, h1, h2, h3, h4, h5, h6⟩
      · exact absurd hpt (h3 t (by omega))
      · have := h5 t (by omega) hpt; omega
  · rcases h with ⟨h1, h2, h3⟩ | ⟨w, h1, h2, h3, h4, h5, h6⟩
    · exact absurd hpt (h3 t ht)
    · have := h5 t ht hpt; omega
theorem Least.skip {P : Nat → Prop} {f : Nat → Int} {T : Nat} {v : Int} (h : Least P f T v) (hs : ¬ P T) : Least P f (T + 1) v := by
  refine ⟨fun t ht hp => ?_, ?_⟩
  · by_cases e : t = T
    · rw [e] at hp; exact absurd hp hs
    · exact h.1 t (by omega) hp
  · rcases h.2 with h | ⟨t, h1, h2⟩
    · exact Or.inl h
    · exact Or.inr ⟨t, by omega, h2⟩
theorem Least.take {P : Nat → Prop} {f : Nat → Int} {T : Nat} {v : Int} (h : Least P f T v) (hp : P T) : Least P f (T + 1) (min v (f T)) := by
  refine ⟨fun t ht hpt => ?_, ?_⟩
  · by_cases e : t = T
    · rw [e]; omega
    · have := h.1 t (by omega) hpt; omega
  · by_cases e : f T ≤ v
    · exact Or.inr ⟨T, by omega, hp, by omega⟩
    · rcases h.2 with h1 | ⟨t, h1, h2, h3⟩
      · exact Or.inl (by omega)
      · exact Or.inr ⟨t, by omega, h2, by omega⟩
/-- the class's bellows, behind choose -/
def BelN (J0 J : zJ) (N : Nat) (st room : Int) (T : Nat) : Prop := Best (fun t => okW (J0 11 2) (J0 12) (J0 13) st N t ∧ pkN (J0 11 2) t (J0 12) st N ≤ room) (fun t => sumN (prc (J0 11 2) t (J0 13)) N) T (J 11 3) (J 11 4) ∧ Least (okW (J0 11 2) (J0 12) (J0 13) st N) (fun t => max (pkN (J0 11 2) t (J0 12) st N) 1) T (J 11 5)
abbrev WFr (J J' : zJ) : Prop := ∀ x k, ¬ (x = 11 ∧ (k = 3 ∨ k = 4 ∨ k = 5)) → J' x k = J x k
theorem WFr.fun {J J' : zJ} (h : WFr J J') : J' 11 2 = J 11 2 ∧ J' 12 = J 12 ∧ J' 13 = J 13 := ⟨h 11 2 (by omega), funext fun k => h 12 k (by omega), funext fun k => h 13 k (by omega)⟩
theorem BPre.keep {J J' : zJ} {N : Nat} (h : BPre J N) (fr : WFr J J') : BPre J' N := by
  obtain ⟨e1, e2, e3⟩ := fr.fun
  unfold BPre
  rw [e1, e2, e3]; exact h
theorem pow8 {N : Nat} (h : N ≤ 8) : 1 ≤ 2 ^ N ∧ 2 ^ N ≤ 256 := ⟨Nat.one_le_two_pow, Nat.le_trans (Nat.pow_le_pow_right (by omega) h) (by decide)⟩
theorem zshl1 {N : Nat} (h : N ≤ 8) : zshl 1 (N : Int) = ((2 ^ N : Nat) : Int) := by
  have := zshl_nat (a := 1) (k := N) (by omega) (by have := pow8 h; omega)
  rw [Nat.one_mul] at this
  exact this

theorem lpBelC {G : gx_G} {X : gx_X} (hG : gx_OK G 76) (B : gx_B G X RX0 cX0_choose 6 rmX0_choose 76) {J0 : zJ} {N : Nat} {st room : Int} (hB : BPre J0 N) (h0 : 0 ≤ st) (h1 : st ≤ 400) (hr0 : 0 ≤ room) (hr1 : room ≤ 400) (Rt : gx_Rv G X (zpv (fun J' => BelN J0 J' N st room (2 ^ N) ∧ WFr J0 J'))) : ∀ i : Nat, i ≤ (2 ^ N) → ∀ (J : zJ), WFr J0 J → BelN J0 J N st room i → gx_WG G X 6 (zh J) 19 [(0, .ref (gx_ad G 11)), (1, .int (zI st)), (2, .int (zI room)), (3, .int (zI (i : Int)))] [] := by
  refine up_ind (fun i hi ih => ?_)
  intro J hfr hb
  have h8 := hB.2.1
  have hpw := pow8 h8
  obtain ⟨e1, e2, e3⟩ := hfr.fun
  refine gx_iload_n B dX0_choose_19 rfl rfl ?_
  refine z_iconst B dX0_choose_20 ?_
  refine gx_aload_n B dX0_choose_21 rfl rfl ?_
  refine z_geti B fl_X0_18 rfl (by decide) rfl dX0_choose_22 ?_
  refine z_ishl B dX0_choose_25 ?_
  rw [show zshl 1 (J 11 2) = ((2 ^ N : Nat) : Int) from (by rw [e1, hB.1]; exact zshl1 hB.2.1)]
  refine z_icmp_ge (tgt := 114) B dX0_choose_26 ⟨by omega, by omega⟩ ⟨by omega, by omega⟩ (by decide) (fun c26 => ?_) (fun c26 => ?_)
  · refine z_ret B Rt dX0_choose_114 ?_
    obtain rfl : i = 2 ^ N := by omega
    exact ⟨hb, hfr⟩
  · refine gx_aload_n B dX0_choose_29 rfl rfl ?_
    refine gx_iload_n B dX0_choose_30 rfl rfl ?_
    refine z_callVi [.int (zI (i : Int))] B lv_X0_53 (mX0_turnsWhenTied hG J (t := (i : Int)) (N := N) (hB.keep hfr)) rfl (by decide) rfl rfl (Nat.le_of_ble_eq_true rfl) (by decide) (by decide) dX0_choose_31 (fun tw J1 hJ1 => ?_)
    rw [hJ1.2]
    have h_tw := hJ1.1
    refine z_if_eq (tgt := 41) B dX0_choose_34 ⟨by rcases h_tw with q | q <;> omega, by rcases h_tw with q | q <;> omega⟩ (by decide) (fun c34 => ?_) (fun c34 => ?_)
    · have hnt : ¬ tied (J 11 2) i (J 13) N := by
        rcases h_tw with q | q
        · omega
        · exact q.2
      refine gx_aload_n B dX0_choose_41 rfl rfl ?_
      refine gx_iload_n B dX0_choose_42 rfl rfl ?_
      refine gx_iload_n B dX0_choose_43 rfl rfl ?_
      refine z_callVi [.int (zI (i : Int)), .int (zI st)] B lv_X0_57 (mX0_peakOf hG J (t := (i : Int)) (st := st) (N := N) (hB.keep hfr) h0 h1) rfl (by decide) rfl rfl (Nat.le_of_ble_eq_true rfl) (by decide) (by decide) dX0_choose_44 (fun pk J2 hJ2 => ?_)
      rw [hJ2.2]
      have h_pk := hJ2.1
      have hpkB : zB pk := by
        have hq9 := pk_le2 (n := J 11 2) (t := i) (fun b hb => ((hB.keep hfr).2.2 b hb).1) h0 h1 N (Nat.le_refl _)
        rcases h_pk with q | q
        · exact ⟨by omega, by omega⟩
        · exact ⟨by omega, by omega⟩
      refine z_istore (fun v9 => [(0, .ref (gx_ad G 11)), (1, .int (zI st)), (2, .int (zI room)), (3, .int (zI (i : Int))), (4, .int (zI v9))]) B dX0_choose_47 (by decide) rfl (fun _ => rfl) (fun v9 hv9 => ?_)
      rw [hv9]
      refine gx_iload B dX0_choose_49 rfl ?_
      refine z_iconst B dX0_choose_51 ?_
      refine z_icmp_ne (tgt := 58) B dX0_choose_52 (by first | decide | exact hpkB) ⟨by omega, by omega⟩ (by decide) (fun c52 => ?_) (fun c52 => ?_)
      · rcases h_pk with h_pk | h_pk
        · exact absurd h_pk.1 c52
        rw [e1, e2] at h_pk
        have hok : okW (J0 11 2) (J0 12) (J0 13) st N i := ⟨by rw [e1, e3] at hnt; exact hnt, h_pk.2⟩
        have epk : pk = pkN (J0 11 2) i (J0 12) st N := h_pk.1
        rw [epk]
        have hp9 := pk_le2 (n := J0 11 2) (t := i) (fun b hb => (hB.2.2 b hb).1) h0 h1 N (Nat.le_refl _)
        refine gx_aload_n B dX0_choose_58 rfl rfl ?_
        refine gx_aload_n B dX0_choose_59 rfl rfl ?_
        refine z_geti B fl_X0_28 rfl (by decide) rfl dX0_choose_60 ?_
        refine gx_iload B dX0_choose_63 rfl ?_
        refine z_iconst B dX0_choose_65 ?_
        refine z_mmax B lm_X0_61 (by decide) (Nat.le_of_ble_eq_true rfl) ⟨by omega, by omega⟩ ⟨by omega, by omega⟩ dX0_choose_66 ?_
        have h5 : 0 ≤ J 11 5 ∧ J 11 5 ≤ 1073741824 := by
          rcases hb.2.2 with q | ⟨t, q1, q2, q3⟩
          · omega
          · have := pk_le2 (n := J0 11 2) (t := t) (fun b hb => (hB.2.2 b hb).1) h0 h1 N (Nat.le_refl _)
            rw [q3]
            show 0 ≤ max (pkN (J0 11 2) t (J0 12) st N) 1 ∧ max (pkN (J0 11 2) t (J0 12) st N) 1 ≤ _
            omega
        refine z_mmin B lm_X0_66 (by decide) (Nat.le_of_ble_eq_true rfl) ⟨by omega, by omega⟩ ⟨by omega, by omega⟩ dX0_choose_69 ?_
        refine z_puti B fw_X0_28 rfl (by decide) rfl dX0_choose_72 (fun JL hJL => ?_)
        have hfl : WFr J0 JL := fun x k h => by rw [hJL, zup_ne (by omega)]; exact hfr x k h
        obtain ⟨d1, d2, d3⟩ := hfl.fun
        have hpr := price_le (J0 11 2) i (J0 13) N
        refine gx_aload_n B dX0_choose_75 rfl rfl ?_
        refine gx_iload_n B dX0_choose_76 rfl rfl ?_
        refine z_callVi [.int (zI (i : Int))] B lv_X0_69 (by have h9 := mX0_priceOf (l := gx_la X) hG JL (t := (i : Int)) (N := N) (hB.keep hfl); rw [d1, d3] at h9; exact h9) rfl (by decide) rfl rfl (Nat.le_of_ble_eq_true rfl) (by decide) (by decide) dX0_choose_77 (fun r4 J3 hJ3 => ?_)
        rw [show r4 = sumN (prc (J0 11 2) i (J0 13)) N from hJ3.1, hJ3.2]
        refine z_istore (fun v9 => [(0, .ref (gx_ad G 11)), (1, .int (zI st)), (2, .int (zI room)), (3, .int (zI (i : Int))), (4, .int (zI (pkN (J0 11 2) i (J0 12) st N))), (5, .int (zI v9))]) B dX0_choose_80 (by decide) rfl (fun _ => rfl) (fun v9 hv9 => ?_)
        rw [hv9]
        refine gx_iload B dX0_choose_82 rfl ?_
        refine gx_iload_n B dX0_choose_84 rfl rfl ?_
        refine z_icmp_gt (tgt := 108) B dX0_choose_85 ⟨by omega, by omega⟩ ⟨by omega, by omega⟩ (by decide) (fun c85 => ?_) (fun c85 => ?_)
        · refine z_iinc (fun v9 => [(0, .ref (gx_ad G 11)), (1, .int (zI st)), (2, .int (zI room)), (3, .int (zI v9)), (4, .int (zI (pkN (J0 11 2) i (J0 12) st N))), (5, .int (zI (sumN (prc (J0 11 2) i (J0 13)) N)))]) B dX0_choose_108 rfl (by decide) rfl (fun _ => rfl) (fun v3 hv3 => ?_)
          rw [show v3 = ((i + 1 : Nat) : Int) from (by omega)]
          refine gx_goto (tgt := 19) B dX0_choose_111 (by decide) ?_
          refine gx_sub [0, 1, 2, 3] rfl ?_
          refine ih (by omega) JL hfl ⟨?_, ?_⟩
          · rw [hJL, zup_ne (by omega), zup_ne (by omega)]
            refine hb.1.skip ?_
            first
             | exact Or.inl (fun q => by have := q.2; omega)
             | (rw [hJL, zup_ne (by omega)] at c94; exact Or.inr ⟨c94, fun q => by rcases hb.1 with ⟨q1, q2, q3⟩ | ⟨w, q1, q2, q3⟩ <;> omega⟩)
          · rw [hJL, zup_self]
            exact hb.2.take hok
        · refine gx_iload B dX0_choose_88 rfl ?_
          refine gx_aload_n B dX0_choose_90 rfl rfl ?_
          refine z_geti B fl_X0_25 rfl (by decide) rfl dX0_choose_91 ?_
          have hJL4 : JL 11 4 = J 11 4 := by rw [hJL, zup_ne (by omega)]
          have h4B : zB (J 11 4) := by
            rcases hb.1 with ⟨q1, q2, q3⟩ | ⟨w, q1, q2, q3, q4, q5⟩
            · exact ⟨by omega, by omega⟩
            · have := price_le (J0 11 2) w (J0 13) N
              have q6 : J 11 4 = sumN (prc (J0 11 2) w (J0 13)) N := q4
              exact ⟨by omega, by omega⟩
          refine z_icmp_ge (tgt := 108) B dX0_choose_94 ⟨by omega, by omega⟩ (by rw [hJL4]; exact h4B) (by decide) (fun c94 => ?_) (fun c94 => ?_)
          · refine z_iinc (fun v9 => [(0, .ref (gx_ad G 11)), (1, .int (zI st)), (2, .int (zI room)), (3, .int (zI v9)), (4, .int (zI (pkN (J0 11 2) i (J0 12) st N))), (5, .int (zI (sumN (prc (J0 11 2) i (J0 13)) N)))]) B dX0_choose_108 rfl (by decide) rfl (fun _ => rfl) (fun v3 hv3 => ?_)
            rw [show v3 = ((i + 1 : Nat) : Int) from (by omega)]
            refine gx_goto (tgt := 19) B dX0_choose_111 (by decide) ?_
            refine gx_sub [0, 1, 2, 3] rfl ?_
            refine ih (by omega) JL hfl ⟨?_, ?_⟩
            · rw [hJL, zup_ne (by omega), zup_ne (by omega)]
              refine hb.1.skip ?_
              first
               | exact Or.inl (fun q => by have := q.2; omega)
               | (rw [hJL, zup_ne (by omega)] at c94; exact Or.inr ⟨c94, fun q => by rcases hb.1 with ⟨q1, q2, q3⟩ | ⟨w, q1, q2, q3⟩ <;> omega⟩)
            · rw [hJL, zup_self]
              exact hb.2.take hok
          · refine gx_aload_n B dX0_choose_97 rfl rfl ?_
            refine gx_iload_n B dX0_choose_98 rfl rfl ?_
            refine z_puti B fw_X0_22 rfl (by decide) rfl dX0_choose_99 (fun JW hJW => ?_)
            refine gx_aload_n B dX0_choose_102 rfl rfl ?_
            refine gx_iload B dX0_choose_103 rfl ?_
            refine z_puti B fw_X0_25 rfl (by decide) rfl dX0_choose_105 (fun JQ hJQ => ?_)
            refine z_iinc (fun v9 => [(0, .ref (gx_ad G 11)), (1, .int (zI st)), (2, .int (zI room)), (3, .int (zI v9)), (4, .int (zI (pkN (J0 11 2) i (J0 12) st N))), (5, .int (zI (sumN (prc (J0 11 2) i (J0 13)) N)))]) B dX0_choose_108 rfl (by decide) rfl (fun _ => rfl) (fun v3 hv3 => ?_)
            rw [show v3 = ((i + 1 : Nat) : Int) from (by omega)]
            refine gx_goto (tgt := 19) B dX0_choose_111 (by decide) ?_
            refine gx_sub [0, 1, 2, 3] rfl ?_
            refine ih (by omega) JQ (fun x k h => by rw [hJQ, zup_ne (by omega), hJW, zup_ne (by omega)]; exact hfl x k h) ⟨?_, ?_⟩
            · rw [hJQ, zup_self, zup_ne (by omega), hJW, zup_self]
              refine hb.1.take ⟨hok, by omega⟩ ?_
              rw [hJL, zup_ne (by omega)] at c94
              exact c94
            · rw [hJQ, zup_ne (by omega), hJW, zup_ne (by omega), hJL, zup_self]
              exact hb.2.take hok
      · have hno : ¬ okW (J0 11 2) (J0 12) (J0 13) st N i := fun q => by
          rcases h_pk with q1 | q1
          · obtain ⟨b, q2, q3⟩ := q1.2
            rw [e1, e2] at q3
            have := q.2 b q2; omega
          · rw [e1, e2] at q1
            have := pk_le2 (n := J0 11 2) (t := i) (fun b hb => (hB.2.2 b hb).1) h0 h1 N (Nat.le_refl _)
            omega
        refine gx_goto (tgt := 108) B dX0_choose_55 (by decide) ?_
        refine z_iinc (fun v9 => [(0, .ref (gx_ad G 11)), (1, .int (zI st)), (2, .int (zI room)), (3, .int (zI v9)), (4, .int (zI pk))]) B dX0_choose_108 rfl (by decide) rfl (fun _ => rfl) (fun v3 hv3 => ?_)
        rw [show v3 = ((i + 1 : Nat) : Int) from (by omega)]
        refine gx_goto (tgt := 19) B dX0_choose_111 (by decide) ?_
        refine gx_sub [0, 1, 2, 3] rfl ?_
        refine ih (by omega) J hfr ⟨hb.1.skip (Or.inl (fun q => hno q.1)), hb.2.skip hno⟩
    · have hno : ¬ okW (J0 11 2) (J0 12) (J0 13) st N i := fun q => by
        rcases h_tw with q1 | q1
        · rw [e1, e3] at q1; exact q.1 q1.2
        · omega
      refine z_iconst B dX0_choose_37 ?_
      refine gx_goto (tgt := 47) B dX0_choose_38 (by decide) ?_
      refine z_istore (fun v9 => [(0, .ref (gx_ad G 11)), (1, .int (zI st)), (2, .int (zI room)), (3, .int (zI (i : Int))), (4, .int (zI v9))]) B dX0_choose_47 (by decide) rfl (fun _ => rfl) (fun v9 hv9 => ?_)
      rw [hv9]
      refine gx_iload B dX0_choose_49 rfl ?_
      refine z_iconst B dX0_choose_51 ?_
      refine z_icmp_ne (tgt := 58) B dX0_choose_52 (by first | decide | exact hpkB) ⟨by omega, by omega⟩ (by decide) (fun c52 => ?_) (fun c52 => ?_)
      · exact absurd c52 (by decide)
      · refine gx_goto (tgt := 108) B dX0_choose_55 (by decide) ?_
        refine z_iinc (fun v9 => [(0, .ref (gx_ad G 11)), (1, .int (zI st)), (2, .int (zI room)), (3, .int (zI v9)), (4, .int (zI (-1)))]) B dX0_choose_108 rfl (by decide) rfl (fun _ => rfl) (fun v3 hv3 => ?_)
        rw [show v3 = ((i + 1 : Nat) : Int) from (by omega)]
        refine gx_goto (tgt := 19) B dX0_choose_111 (by decide) ?_
        refine gx_sub [0, 1, 2, 3] rfl ?_
        refine ih (by omega) J hfr ⟨hb.1.skip (Or.inl (fun q => hno q.1)), hb.2.skip hno⟩

theorem mX0_choose {l : Launch} {G : gx_G} (hG : gx_OK G 76) (J : zJ) {N : Nat} {st room : Int} (hB : BPre J N) (h0 : 0 ≤ st) (h1 : st ≤ 400) (hr0 : 0 ≤ room) (hr1 : room ≤ 400) : zMv l G yX0_choose cX0_choose 6 rmX0_choose [.ref (gx_ad G 11), .int (zI st), .int (zI room)] J (fun J' => BelN J J' N st room (2 ^ N) ∧ WFr J J') := by
  refine gx_mv hG (by decide) (Nat.le_of_ble_eq_true rfl) (fun X hla B Rt => ?_)
  subst hla
  have B : gx_B G X RX0 cX0_choose 6 rmX0_choose 76 := B
  show gx_WG G X 6 (zh J) 0 [(0, .ref (gx_ad G 11)), (1, .int (zI st)), (2, .int (zI room))] []
  refine gx_aload_n B dX0_choose_0 rfl rfl ?_
  refine z_iconst B dX0_choose_1 ?_
  refine z_puti B fw_X0_22 rfl (by decide) rfl dX0_choose_2 (fun J1 hJ1 => ?_)
  refine gx_aload_n B dX0_choose_5 rfl rfl ?_
  refine z_ldc 1073741824 B dX0_choose_6 lk_X0_52 (by decide) ?_
  refine z_puti B fw_X0_25 rfl (by decide) rfl dX0_choose_8 (fun J2 hJ2 => ?_)
  refine gx_aload_n B dX0_choose_11 rfl rfl ?_
  refine z_ldc 1073741824 B dX0_choose_12 lk_X0_52 (by decide) ?_
  refine z_puti B fw_X0_28 rfl (by decide) rfl dX0_choose_14 (fun J3 hJ3 => ?_)
  refine z_iconst B dX0_choose_17 ?_
  refine z_istore_n (fun v9 => [(0, .ref (gx_ad G 11)), (1, .int (zI st)), (2, .int (zI room)), (3, .int (zI v9))]) B dX0_choose_18 rfl (by decide) rfl (fun _ => rfl) (fun v3 hv3 => ?_)
  rw [show v3 = ((0 : Nat) : Int) from (by omega)]
  refine lpBelC hG B hB h0 h1 hr0 hr1 Rt 0 (Nat.zero_le _) J3 (fun x k h => by rw [hJ3, zup_ne (by omega), hJ2, zup_ne (by omega), hJ1, zup_ne (by omega)]) ⟨Or.inl ⟨?_, ?_, fun t ht => by omega⟩, fun t ht => by omega, Or.inl ?_⟩
  · rw [hJ3, zup_ne (by omega), hJ2, zup_ne (by omega), hJ1, zup_self]
  · rw [hJ3, zup_ne (by omega), hJ2, zup_self]
  · rw [hJ3, zup_self]

